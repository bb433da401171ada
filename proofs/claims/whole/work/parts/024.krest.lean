set_option maxHeartbeats 4000000 in
set_option maxRecDepth 100000 in
theorem kX3_pair (l : Launch) (D : va_G) (cI cZ cC : ClassId)  (p0 : Int32) (p1 : Int32) (p2 : Int32)  : Met l yX3_pair wsX3_pair ({ frames := 0, cells := 0, slots := 0, locals := 0 }) (pR D (tyv cI cZ cC) ([]) [.int p0, .int p1, .int p2]) (vp_Si (fun r => r = fX3_pair p0 p1 p2)) 0 0 (fun _ => False) := by
  refine Met.ofW (cc := cX3_pair) (maxL := 3) (ret := (some .int)) (by decide) rfl ?_
  intro p e s m args below meth c s₁ B hml hv
  obtain ⟨rfl, hP, hK, hN⟩ := hv
  have hx := B.exec
  have hb := B.bytes
  have hr := B.returns
  have hts := atoms_spec (ws := wsX3_pair) B.pre
  have hown : s.vm.findClass RX3 = some m.cls := findClass_of_methodNamed B.named
  have hlocks := B.notSynchronized
  have hP : va_P D vwCl ([]) s.heap := hP
  have hl := lv_entry ([.int p0, .int p1, .int p2]) (n := 3) (Nat.le_of_ble_eq_true rfl)
  rw [lg_entry_eq]
  generalize (lg_sl ([.int p0, .int p1, .int p2]) ++ List.replicate (3 - (lg_sl ([.int p0, .int p1, .int p2])).length) Slot.unset).toArray = ls at hl ⊢
  have hl : lv_has ls 3 [(0, .int p0), (1, .int p1), (2, .int p2)] := hl
  have hSF : CallFix p m c cX3_pair 3 s _ wsX3_pair RX3 := ⟨hx, hb, hml, hown, hts⟩
  refine lv_iload_n hx hb dX3_pair_0 rfl (lv_at hl 0 rfl) ?_
  refine lv_bipush (v := 10) hx hb dX3_pair_1 (by decide) ?_
  refine lv_imul hx hb dX3_pair_3 ?_
  refine lv_iload_n hx hb dX3_pair_4 rfl (lv_at hl 1 rfl) ?_
  refine lv_iadd hx hb dX3_pair_5 ?_
  refine lv_bipush (v := 10) hx hb dX3_pair_6 (by decide) ?_
  refine lv_imul hx hb dX3_pair_8 ?_
  refine lv_iload_n hx hb dX3_pair_9 rfl (lv_at hl 2 rfl) ?_
  refine lv_iadd hx hb dX3_pair_10 ?_
  have e9 : fX3_pair p0 p1 p2 = ((((p0 * 10) + p1) * 10) + p2) := by
    rfl
  exact W.iret hx hb hr (fun t ht hW => ⟨_, rfl, e9.symm, ht⟩) (fun _ h9 => absurd h9 List.not_mem_nil) dX3_pair_11

set_option maxHeartbeats 4000000 in
set_option maxRecDepth 100000 in
theorem kX3_keep (l : Launch) (D : va_G) (cI cZ cC : ClassId) (hw : Nat) (aw : Nat → Nat) (ow : OV) (p0 : Int32) (p1 : Int32) (p2 : Int32) (h1 : vp_in p0 3000) (h2 : vp_in p2 300) {sz : Nat} : Met l yX3_keep wsX3_keep ({ frames := 1, cells := 0, slots := 0, locals := 15 }) (pW D (tyv cI cZ cC) (wX3 cI hw aw ow) sz [.ref hw, .int p0, .int p1, .int p2]) (va_Qv (fun (u : OV) => u = fX3_keep ow p0 p1 p2) (qW D (fun (u : OV) => wX3 cI hw aw u) (va_A (wX3 cI hw aw ow) sz)) (va_A (wX3 cI hw aw ow) sz)) 0 0 (va_A (wX3 cI hw aw ow) sz) := by
  refine Met.ofW (cc := cX3_keep) (maxL := 4) (ret := none) (by decide) rfl ?_
  intro p e s m args below meth c s₁ B hml hv
  obtain ⟨rfl, hsz, hP, hK, hN, hD0⟩ := hv
  have hx := B.exec
  have hb := B.bytes
  have hr := B.returns
  have hts := atoms_spec (ws := wsX3_keep) B.pre
  have hown : s.vm.findClass RX3 = some m.cls := findClass_of_methodNamed B.named
  have hlocks := B.notSynchronized
  subst hsz
  have hD := hD0.self (sz := s.heap.size)
  generalize hAe : va_A (wX3 cI hw aw ow) s.heap.size = A at hD ⊢
  have hA : ∀ q : Nat, s.heap.size ≤ q → A q := fun q h => by rw [← hAe]; exact Or.inr h
  have hS : va_S A s.heap s.heap [] := va_S.rf
  have hP : va_P D vwCl (wX3 cI hw aw ow) s.heap := hP
  have hl := lv_entry ([.ref hw, .int p0, .int p1, .int p2]) (n := 4) (Nat.le_of_ble_eq_true rfl)
  rw [lg_entry_eq]
  generalize (lg_sl ([.ref hw, .int p0, .int p1, .int p2]) ++ List.replicate (4 - (lg_sl ([.ref hw, .int p0, .int p1, .int p2])).length) Slot.unset).toArray = ls at hl ⊢
  have hl : lv_has ls 4 [(0, .ref hw), (1, .int p0), (2, .int p1), (3, .int p2)] := hl
  have hSF : CallFix p m c cX3_keep 4 s _ wsX3_keep RX3 := ⟨hx, hb, hml, hown, hts⟩
  have hi3 : ∀ w ∈ wsX30, w ∈ wsX3_keep := by decide +kernel
  have hf18 : (Cond.fieldLink RX3 18 "UmbrellaVote$Resting" "shares" "[I").before _ s = true := hts _ (by decide +kernel)
  have hf21 : (Cond.fieldLink RX3 21 "UmbrellaVote$Resting" "greatest" "[I").before _ s = true := hts _ (by decide +kernel)
  refine lv_aload_n hx hb dX3_keep_0 rfl (lv_at hl 0 rfl) ?_
  refine va_get (D := D) (ci := 3) (v := .ref (aw 3)) (C := RX3) (T := TX3) (N := 5) hx hb hts hi3 hown hK hP 0 rfl rfl 3 (by decide) hf18 (fun _ h9 => h9) rfl dX3_keep_1 ?_
  refine lv_iload_n hx hb dX3_keep_4 rfl (lv_at hl 1 rfl) ?_
  refine lv_iload_n hx hb dX3_keep_5 rfl (lv_at hl 2 rfl) ?_
  refine va_iast hx hb hK hP hD hS 3 0 rfl rfl h1 dX3_keep_6 (fun H locs hP hD hS => ?_)
  have hP : va_P D vwCl (wX3 cI hw aw (ua ow 3 p0.toNatClampNeg p1)) H := hP
  have hD : va_D A (wX3 cI hw aw (ua ow 3 p0.toNatClampNeg p1)) := hD
  refine lv_aload_n hx hb dX3_keep_7 rfl (lv_at hl 0 rfl) ?_
  refine va_get (D := D) (ci := 3) (v := .ref (aw 4)) (C := RX3) (T := TX3) (N := 5) hx hb hts hi3 hown hK hP 0 rfl rfl 4 (by decide) hf21 (fun _ h9 => h9) rfl dX3_keep_8 ?_
  refine lv_iload_n hx hb dX3_keep_11 rfl (lv_at hl 3 rfl) ?_
  refine lv_aload_n hx hb dX3_keep_12 rfl (lv_at hl 0 rfl) ?_
  refine va_get (D := D) (ci := 3) (v := .ref (aw 4)) (C := RX3) (T := TX3) (N := 5) hx hb hts hi3 hown hK hP 0 rfl rfl 4 (by decide) hf21 (fun _ h9 => h9) rfl dX3_keep_13 ?_
  refine lv_iload_n hx hb dX3_keep_16 rfl (lv_at hl 3 rfl) ?_
  refine va_iald (f := (ow.2 4)) hx hb hK hP 4 0 rfl rfl h2 dX3_keep_17 ?_
  refine lv_iload_n hx hb dX3_keep_18 rfl (lv_at hl 2 rfl) ?_
  refine va_mmax hx hb (by rw [hml]; exact hl.1.symm) hown (hts (.methodLink RX3 86 Lib.Math.max.name) (by decide +kernel)) (hts (.static Lib.Math.max.name) (by decide +kernel)) (hts (.initialized "java/lang/Math") (by decide +kernel)) (hts (.code Lib.Math.max.name Lib.Math.max.code 2 (some .int)) (by decide +kernel)) (Nat.le_of_ble_eq_true rfl) (Nat.le_of_ble_eq_true rfl) (Nat.zero_le _) (Nat.zero_le _) dX3_keep_19 ?_
  refine va_iast hx hb hK hP hD hS 4 0 rfl rfl h2 dX3_keep_22 (fun H locs hP hD hS => ?_)
  rw [sw_w_w_a4] at hP hD
  have hP : va_P D vwCl (wX3 cI hw aw (ua (ua ow 3 p0.toNatClampNeg p1) 4 p2.toNatClampNeg (if ((ow.2 4) p2.toNatClampNeg) < p1 then p1 else ((ow.2 4) p2.toNatClampNeg)))) H := hP
  have hD : va_D A (wX3 cI hw aw (ua (ua ow 3 p0.toNatClampNeg p1) 4 p2.toNatClampNeg (if ((ow.2 4) p2.toNatClampNeg) < p1 then p1 else ((ow.2 4) p2.toNatClampNeg)))) := hD
  have e9 : fX3_keep ow p0 p1 p2 = (ua (ua ow 3 p0.toNatClampNeg p1) 4 p2.toNatClampNeg (if ((ow.2 4) p2.toNatClampNeg) < p1 then p1 else ((ow.2 4) p2.toNatClampNeg))) := by
    rfl
  exact W.vret hx hb hr (fun t ht hW => ⟨⟨(ua (ua ow 3 p0.toNatClampNeg p1) 4 p2.toNatClampNeg (if ((ow.2 4) p2.toNatClampNeg) < p1 then p1 else ((ow.2 4) p2.toNatClampNeg))), rfl, e9.symm, ⟨by rw [ht]; exact hP, hD⟩⟩, hS.F ht⟩) hS.2.2 dX3_keep_23

set_option maxHeartbeats 4000000 in
set_option maxRecDepth 100000 in
theorem kX3_fillTimes (l : Launch) (D : va_G) (cI cZ cC : ClassId) (hw : Nat) (aw : Nat → Nat) (ow : OV) (hc : Nat) (ac : Nat → Nat) (oc : OV) (p0 : Int32) (p1 : Int32) (hs9 : ∃ t : Nat, t < 3 ∧ p1 = nI t) {sz : Nat} : Met l yX3_fillTimes wsX3_fillTimes ({ frames := 2, cells := 0, slots := 0, locals := 45 }) (pW D (tyv cI cZ cC) (wX3 cI hw aw ow ++ wX0 cI hc ac oc) sz [.ref hw, .ref hc, .int p0, .int p1]) (va_Qv (fun (u : OV) => u = fX3_fillTimes ow oc p0 p1) (qW D (fun (u : OV) => wX3 cI hw aw u ++ wX0 cI hc ac oc) (va_A (wX3 cI hw aw ow ++ wX0 cI hc ac oc) sz)) (va_A (wX3 cI hw aw ow ++ wX0 cI hc ac oc) sz)) 0 0 (va_A (wX3 cI hw aw ow ++ wX0 cI hc ac oc) sz) := by
  refine Met.ofW (cc := cX3_fillTimes) (maxL := 6) (ret := none) (by decide) rfl ?_
  intro p e s m args below meth c s₁ B hml hv
  obtain ⟨rfl, hsz, hP, hK, hN, hD0⟩ := hv
  have hx := B.exec
  have hb := B.bytes
  have hr := B.returns
  have hts := atoms_spec (ws := wsX3_fillTimes) B.pre
  have hown : s.vm.findClass RX3 = some m.cls := findClass_of_methodNamed B.named
  have hlocks := B.notSynchronized
  subst hsz
  have hD := hD0.self (sz := s.heap.size)
  generalize hAe : va_A (wX3 cI hw aw ow ++ wX0 cI hc ac oc) s.heap.size = A at hD ⊢
  have hA : ∀ q : Nat, s.heap.size ≤ q → A q := fun q h => by rw [← hAe]; exact Or.inr h
  have hS : va_S A s.heap s.heap [] := va_S.rf
  have hP : va_P D vwCl (wX3 cI hw aw ow ++ wX0 cI hc ac oc) s.heap := hP
  have hl := lv_entry ([.ref hw, .ref hc, .int p0, .int p1]) (n := 6) (Nat.le_of_ble_eq_true rfl)
  rw [lg_entry_eq]
  generalize (lg_sl ([.ref hw, .ref hc, .int p0, .int p1]) ++ List.replicate (6 - (lg_sl ([.ref hw, .ref hc, .int p0, .int p1])).length) Slot.unset).toArray = ls at hl ⊢
  have hl : lv_has ls 6 [(0, .ref hw), (1, .ref hc), (2, .int p0), (3, .int p1)] := hl
  have hSF : CallFix p m c cX3_fillTimes 6 s _ wsX3_fillTimes RX3 := ⟨hx, hb, hml, hown, hts⟩
  have hi3 : ∀ w ∈ wsX30, w ∈ wsX3_fillTimes := by decide +kernel
  have hf15 : (Cond.fieldLink RX3 15 "UmbrellaVote$Resting" "times" "[I").before _ s = true := hts _ (by decide +kernel)
  refine lv_iconst (v := 0) hx hb dX3_fillTimes_0 (by decide) ?_
  refine lv_istore (lv' := [(4, .int 0), (0, .ref hw), (1, .ref hc), (2, .int p0), (3, .int p1)]) hx hb dX3_fillTimes_1 hl (by decide) rfl (fun ls hl => ?_)
  refine W_lpW (10) (fun k9 H9 locs9 ls9 => va_P D vwCl (wX3 cI hw aw (fX3_fillTimes_L3 oc p0 p1 ow k9) ++ wX0 cI hc ac oc) H9 ∧ va_D A (wX3 cI hw aw (fX3_fillTimes_L3 oc p0 p1 ow k9) ++ wX0 cI hc ac oc) ∧ va_S A s.heap H9 locs9 ∧ lv_has ls9 6 [(4, .int (nI k9)), (0, .ref hw), (1, .ref hc), (2, .int p0), (3, .int p1)]) ⟨hP, hD, hS, lv_sub hl [0, 1, 2, 3, 4] rfl⟩ ?_ ?_
  · intro k1 H locs ls hk1 hI9 ih1
    obtain ⟨hP, hD, hS, hl⟩ := hI9
    generalize hs1 : fX3_fillTimes_L3 oc p0 p1 ow k1 = y1 at hP hD hl
    obtain ⟨ow1, en1⟩ : ∃ z, z = y1 := ⟨_, rfl⟩
    subst en1
    have hP : va_P D vwCl (wX3 cI hw aw ow1 ++ wX0 cI hc ac oc) H := hP
    have hD : va_D A (wX3 cI hw aw ow1 ++ wX0 cI hc ac oc) := hD
    have hl : lv_has ls 6 [(4, .int (nI k1)), (0, .ref hw), (1, .ref hc), (2, .int p0), (3, .int p1)] := hl
    refine lv_iload hx hb dX3_fillTimes_3 (lv_at hl 0 rfl) ?_
    refine lv_bipush (v := 10) hx hb dX3_fillTimes_5 (by decide) ?_
    refine lv_icmp_ge (tgt := 54) hx hb dX3_fillTimes_7 (by decide) (fun c2 => absurd c2 (nI_ge hk1 (by decide))) (fun c2 => ?_)
    refine lv_iconst (v := 0) hx hb dX3_fillTimes_10 (by decide) ?_
    refine lv_istore (lv' := [(5, .int 0), (4, .int (nI k1)), (0, .ref hw), (1, .ref hc), (2, .int p0), (3, .int p1)]) hx hb dX3_fillTimes_11 hl (by decide) rfl (fun ls hl => ?_)
    refine W_lpW (10) (fun k9 H9 locs9 ls9 => va_P D vwCl (wX3 cI hw aw (fX3_fillTimes_L13 oc p0 p1 k1 ow1 k9) ++ wX0 cI hc ac oc) H9 ∧ va_D A (wX3 cI hw aw (fX3_fillTimes_L13 oc p0 p1 k1 ow1 k9) ++ wX0 cI hc ac oc) ∧ va_S A s.heap H9 locs9 ∧ lv_has ls9 6 [(5, .int (nI k9)), (4, .int (nI k1)), (0, .ref hw), (1, .ref hc), (2, .int p0), (3, .int p1)]) ⟨hP, hD, hS, lv_sub hl [0, 1, 2, 3, 4, 5] rfl⟩ ?_ ?_
    · intro k3 H locs ls hk3 hI9 ih3
      obtain ⟨hP, hD, hS, hl⟩ := hI9
      generalize hs3 : fX3_fillTimes_L13 oc p0 p1 k1 ow1 k3 = y3 at hP hD hl
      obtain ⟨ow3, en3⟩ : ∃ z, z = y3 := ⟨_, rfl⟩
      subst en3
      have hP : va_P D vwCl (wX3 cI hw aw ow3 ++ wX0 cI hc ac oc) H := hP
      have hD : va_D A (wX3 cI hw aw ow3 ++ wX0 cI hc ac oc) := hD
      have hl : lv_has ls 6 [(5, .int (nI k3)), (4, .int (nI k1)), (0, .ref hw), (1, .ref hc), (2, .int p0), (3, .int p1)] := hl
      refine lv_iload hx hb dX3_fillTimes_13 (lv_at hl 0 rfl) ?_
      refine lv_bipush (v := 10) hx hb dX3_fillTimes_15 (by decide) ?_
      refine lv_icmp_ge (tgt := 48) hx hb dX3_fillTimes_17 (by decide) (fun c4 => absurd c4 (nI_ge hk3 (by decide))) (fun c4 => ?_)
      refine lv_aload_n hx hb dX3_fillTimes_20 rfl (lv_at hl 2 rfl) ?_
      refine va_get (D := D) (ci := 3) (v := .ref (aw 2)) (C := RX3) (T := TX3) (N := 5) hx hb hts hi3 hown hK hP 0 rfl rfl 2 (by decide) hf15 (fun _ h9 => h9) rfl dX3_fillTimes_21 ?_
      refine lv_iload_n hx hb dX3_fillTimes_24 rfl (lv_at hl 5 rfl) ?_
      refine lv_iload hx hb dX3_fillTimes_25 (lv_at hl 1 rfl) ?_
      refine lv_iload hx hb dX3_fillTimes_27 (lv_at hl 0 rfl) ?_
      refine rcSi (As := [.int p1, .int (nI k1), .int (nI k3)]) (rest := [.ref (aw 2)]) hSF (kX3_pair l D cI cZ cC p1 (nI k1) (nI k3)) (va_cwS 3 hts gX3_fillTimes_X3_pair rfl rfl rfl (by decide +kernel) ⟨Nat.le_of_ble_eq_true rfl, Nat.le_of_ble_eq_true rfl⟩) (hP.sub [] rfl) hK hN rfl rfl hl.1 (Nat.le_of_ble_eq_true rfl) dX3_fillTimes_29 ⟨Nat.zero_le _, Nat.zero_le _⟩ ?_
      refine lv_aload_n hx hb dX3_fillTimes_32 rfl (lv_at hl 3 rfl) ?_
      refine lv_iload hx hb dX3_fillTimes_33 (lv_at hl 1 rfl) ?_
      refine lv_iload_n hx hb dX3_fillTimes_35 rfl (lv_at hl 4 rfl) ?_
      refine lv_iload hx hb dX3_fillTimes_36 (lv_at hl 0 rfl) ?_
      refine rcVi (b := hc) (As := [.int (nI k1), .int p0, .int (nI k3)]) (rest := [.int (fX3_pair p1 (nI k1) (nI k3)), .ref (aw 2)]) hSF (kX0_openTimeAt l D cI cZ cC hc ac oc (nI k1) p0 (nI k3)) (cwV 3 hts gX3_fillTimes_X0_openTimeAt rfl rfl rfl (by decide +kernel) ⟨Nat.le_of_ble_eq_true rfl, Nat.le_of_ble_eq_true rfl⟩) (va_recv hK hP (ci := 0) (q0 := 5) rfl rfl) (hP.sub [5, 6, 7, 8, 9, 10] rfl) hK hN rfl rfl hl.1 (Nat.le_of_ble_eq_true rfl) dX3_fillTimes_38 ⟨Nat.zero_le _, Nat.zero_le _⟩ ?_
      refine va_iast hx hb hK hP hD hS 2 0 rfl rfl (pr_in hs9 hk1 hk3) dX3_fillTimes_41 (fun H locs hP hD hS => ?_)
      have hP : va_P D vwCl (wX3 cI hw aw (ua ow3 2 (fX3_pair p1 (nI k1) (nI k3)).toNatClampNeg (fX0_openTimeAt oc (nI k1) p0 (nI k3))) ++ wX0 cI hc ac oc) H := hP
      have hD : va_D A (wX3 cI hw aw (ua ow3 2 (fX3_pair p1 (nI k1) (nI k3)).toNatClampNeg (fX0_openTimeAt oc (nI k1) p0 (nI k3))) ++ wX0 cI hc ac oc) := hD
      refine lv_iinc (v := ((nI k3) + 1)) (lv' := [(5, .int ((nI k3) + 1)), (4, .int (nI k1)), (0, .ref hw), (1, .ref hc), (2, .int p0), (3, .int p1)]) hx hb dX3_fillTimes_42 hl (k := 0) rfl rfl (by decide) rfl (fun ls hl => ?_)
      refine lv_goto (tgt := 13) hx hb dX3_fillTimes_45 (by decide) ?_
      have e8 : fX3_fillTimes_L13s oc p0 p1 k1 k3 ow3 = (ua ow3 2 (fX3_pair p1 (nI k1) (nI k3)).toNatClampNeg (fX0_openTimeAt oc (nI k1) p0 (nI k3))) := by
        rfl
      have e7 : fX3_fillTimes_L13 oc p0 p1 k1 ow1 (k3 + 1) = (ua ow3 2 (fX3_pair p1 (nI k1) (nI k3)).toNatClampNeg (fX0_openTimeAt oc (nI k1) p0 (nI k3))) := by
        show fX3_fillTimes_L13s oc p0 p1 k1 k3 (fX3_fillTimes_L13 oc p0 p1 k1 ow1 k3) = _
        rw [hs3]; exact e8
      have hl9 : lv_has ls 6 [(5, .int (nI (k3 + 1))), (4, .int (nI k1)), (0, .ref hw), (1, .ref hc), (2, .int p0), (3, .int p1)] := by
        rw [nI_succ]; exact lv_sub hl [0, 1, 2, 3, 4, 5] rfl
      exact ih3 H locs ls ⟨by rw [e7]; exact hP, by rw [e7]; exact hD, hS, hl9⟩
    intro H locs ls hI9
    obtain ⟨hP, hD, hS, hl⟩ := hI9
    refine lv_iload hx hb dX3_fillTimes_13 (lv_at hl 0 rfl) ?_
    refine lv_bipush (v := 10) hx hb dX3_fillTimes_15 (by decide) ?_
    refine lv_icmp_ge (tgt := 48) hx hb dX3_fillTimes_17 (by decide) (fun c5 => ?_) (fun c5 => absurd (nI_le (Nat.le_refl _) (by decide)) c5)
    refine lv_iinc (v := ((nI k1) + 1)) (lv' := [(4, .int ((nI k1) + 1)), (5, .int (nI (10))), (0, .ref hw), (1, .ref hc), (2, .int p0), (3, .int p1)]) hx hb dX3_fillTimes_48 hl (k := 1) rfl rfl (by decide) rfl (fun ls hl => ?_)
    refine lv_goto (tgt := 3) hx hb dX3_fillTimes_51 (by decide) ?_
    have e8 : fX3_fillTimes_L3s oc p0 p1 k1 ow1 = (fX3_fillTimes_L13 oc p0 p1 k1 ow1 (10)) := by
      rfl
    have e7 : fX3_fillTimes_L3 oc p0 p1 ow (k1 + 1) = (fX3_fillTimes_L13 oc p0 p1 k1 ow1 (10)) := by
      show fX3_fillTimes_L3s oc p0 p1 k1 (fX3_fillTimes_L3 oc p0 p1 ow k1) = _
      rw [hs1]; exact e8
    have hl9 : lv_has ls 6 [(4, .int (nI (k1 + 1))), (0, .ref hw), (1, .ref hc), (2, .int p0), (3, .int p1)] := by
      rw [nI_succ]; exact lv_sub hl [0, 2, 3, 4, 5] rfl
    exact ih1 H locs ls ⟨by rw [e7]; exact hP, by rw [e7]; exact hD, hS, hl9⟩
  intro H locs ls hI9
  obtain ⟨hP, hD, hS, hl⟩ := hI9
  refine lv_iload hx hb dX3_fillTimes_3 (lv_at hl 0 rfl) ?_
  refine lv_bipush (v := 10) hx hb dX3_fillTimes_5 (by decide) ?_
  refine lv_icmp_ge (tgt := 54) hx hb dX3_fillTimes_7 (by decide) (fun c6 => ?_) (fun c6 => absurd (nI_le (Nat.le_refl _) (by decide)) c6)
  have e9 : fX3_fillTimes ow oc p0 p1 = (fX3_fillTimes_L3 oc p0 p1 ow (10)) := by
    rfl
  exact W.vret hx hb hr (fun t ht hW => ⟨⟨(fX3_fillTimes_L3 oc p0 p1 ow (10)), rfl, e9.symm, ⟨by rw [ht]; exact hP, hD⟩⟩, hS.F ht⟩) hS.2.2 dX3_fillTimes_54

set_option maxHeartbeats 4000000 in
set_option maxRecDepth 100000 in
theorem kX3_fillSlots (l : Launch) (D : va_G) (cI cZ cC : ClassId) (hw : Nat) (aw : Nat → Nat) (ow : OV) (hc : Nat) (ac : Nat → Nat) (oc : OV)   {sz : Nat} : Met l yX3_fillSlots wsX3_fillSlots ({ frames := 3, cells := 0, slots := 0, locals := 70 }) (pW D (tyv cI cZ cC) (wX3 cI hw aw ow ++ wX0 cI hc ac oc) sz [.ref hw, .ref hc]) (va_Qv (fun (u : OV) => u = fX3_fillSlots ow oc) (qW D (fun (u : OV) => wX3 cI hw aw u ++ wX0 cI hc ac oc) (va_A (wX3 cI hw aw ow ++ wX0 cI hc ac oc) sz)) (va_A (wX3 cI hw aw ow ++ wX0 cI hc ac oc) sz)) 0 0 (va_A (wX3 cI hw aw ow ++ wX0 cI hc ac oc) sz) := by
  refine Met.ofW (cc := cX3_fillSlots) (maxL := 4) (ret := none) (by decide) rfl ?_
  intro p e s m args below meth c s₁ B hml hv
  obtain ⟨rfl, hsz, hP, hK, hN, hD0⟩ := hv
  have hx := B.exec
  have hb := B.bytes
  have hr := B.returns
  have hts := atoms_spec (ws := wsX3_fillSlots) B.pre
  have hown : s.vm.findClass RX3 = some m.cls := findClass_of_methodNamed B.named
  have hlocks := B.notSynchronized
  subst hsz
  have hD := hD0.self (sz := s.heap.size)
  generalize hAe : va_A (wX3 cI hw aw ow ++ wX0 cI hc ac oc) s.heap.size = A at hD ⊢
  have hA : ∀ q : Nat, s.heap.size ≤ q → A q := fun q h => by rw [← hAe]; exact Or.inr h
  have hS : va_S A s.heap s.heap [] := va_S.rf
  have hP : va_P D vwCl (wX3 cI hw aw ow ++ wX0 cI hc ac oc) s.heap := hP
  have hl := lv_entry ([.ref hw, .ref hc]) (n := 4) (Nat.le_of_ble_eq_true rfl)
  rw [lg_entry_eq]
  generalize (lg_sl ([.ref hw, .ref hc]) ++ List.replicate (4 - (lg_sl ([.ref hw, .ref hc])).length) Slot.unset).toArray = ls at hl ⊢
  have hl : lv_has ls 4 [(0, .ref hw), (1, .ref hc)] := hl
  have hSF : CallFix p m c cX3_fillSlots 4 s _ wsX3_fillSlots RX3 := ⟨hx, hb, hml, hown, hts⟩
  have hi3 : ∀ w ∈ wsX30, w ∈ wsX3_fillSlots := by decide +kernel
  have hf15 : (Cond.fieldLink RX3 15 "UmbrellaVote$Resting" "times" "[I").before _ s = true := hts _ (by decide +kernel)
  have hf43 : (Cond.fieldLink RX3 43 "UmbrellaVote$Resting" "rows" "I").before _ s = true := hts _ (by decide +kernel)
  have hi0 : ∀ w ∈ wsX00, w ∈ wsX3_fillSlots := by decide +kernel
  have hf55 : (Cond.fieldLink RX3 55 "UmbrellaVote$City" "holes" "I").before _ s = true := hts _ (by decide +kernel)
  have hf62 : (Cond.fieldLink RX3 62 "UmbrellaVote$City" "slows" "[I").before _ s = true := hts _ (by decide +kernel)
  refine lv_aload_n hx hb dX3_fillSlots_0 rfl (lv_at hl 0 rfl) ?_
  refine va_get (D := D) (ci := 3) (v := .ref (aw 2)) (C := RX3) (T := TX3) (N := 5) hx hb hts hi3 hown hK hP 0 rfl rfl 2 (by decide) hf15 (fun _ h9 => h9) rfl dX3_fillSlots_1 ?_
  refine lv_sipush (v := 1000) hx hb dX3_fillSlots_4 (by decide) ?_
  refine wcSv (As := [.ref (aw 2), .int 1000]) (rest := []) (wr := [(hw, .inr (3, [.int (ow.1 0), .ref (aw 1), .ref (aw 2), .ref (aw 3), .ref (aw 4)])), (aw 1, .inl (cI, 10, .inl (ow.2 1))), (aw 3, .inl (cI, 3000, .inl (ow.2 3))), (aw 4, .inl (cI, 300, .inl (ow.2 4))), (hc, .inr (0, [.int (oc.1 0), .int (oc.1 1), .int (oc.1 2), .int (oc.1 3), .int (oc.1 4), .int (oc.1 5), .int (oc.1 6), .ref (ac 7), .ref (ac 8), .ref (ac 9), .ref (ac 10), .ref (ac 11)])), (ac 7, .inl (cI, 6, .inl (oc.2 7))), (ac 8, .inl (cI, 6, .inl (oc.2 8))), (ac 9, .inl (cI, 10, .inl (oc.2 9))), (ac 10, .inl (cI, 6, .inl (oc.2 10))), (ac 11, .inl (cI, 6, .inl (oc.2 11)))]) (ws' := wX3 cI hw aw (ub ow 2 (fJ7_fill_53178 300 (ow.2 2) 1000)) ++ wX0 cI hc ac oc) hSF (kJ7_fill_53178 l D cI cZ cC (aw 2) 300 (ow.2 2) 1000 (by decide)) (va_cwS 2 hts gX3_fillSlots_J7_fill_53178 rfl rfl rfl (by decide +kernel) ⟨Nat.le_of_ble_eq_true rfl, Nat.le_of_ble_eq_true rfl⟩) hP hD hS hA hK hN [2] [0, 1, 3, 4, 5, 6, 7, 8, 9, 10] [0, 1, 10, 2, 3, 4, 5, 6, 7, 8, 9] rfl (by decide) rfl (by decide) (by decide) rfl (by decide) rfl rfl hl.1 (Nat.le_of_ble_eq_true rfl) dX3_fillSlots_7 ⟨Nat.zero_le _, Nat.zero_le _⟩ (fun H locs hP hD hS => ?_)
  refine lv_aload_n hx hb dX3_fillSlots_10 rfl (lv_at hl 0 rfl) ?_
  refine lv_iconst (v := 1) hx hb dX3_fillSlots_11 (by decide) ?_
  refine va_put (D := D) (ci := 3) (v := .int 1) (ty := .int) (C := RX3) (T := TX3) (N := 5) hx hb hts hi3 tyX3 tyX3_ok nmX3 hown hK hP hD hS 0 rfl rfl 0 (by decide) hf43 (fun _ h9 => h9) rfl (by decide +kernel) rfl rfl (Nat.le_of_ble_eq_true rfl) dX3_fillSlots_12 (fun H locs hP hD hS => ?_)
  rw [sw_wc_w_s0] at hP hD
  have hP : va_P D vwCl (wX3 cI hw aw (us (ub ow 2 (fJ7_fill_53178 300 (ow.2 2) 1000)) 0 1) ++ wX0 cI hc ac oc) H := hP
  have hD : va_D A (wX3 cI hw aw (us (ub ow 2 (fJ7_fill_53178 300 (ow.2 2) 1000)) 0 1) ++ wX0 cI hc ac oc) := hD
  refine lv_iconst (v := 2) hx hb dX3_fillSlots_15 (by decide) ?_
  refine lv_istore_n (lv' := [(2, .int 2), (0, .ref hw), (1, .ref hc)]) hx hb dX3_fillSlots_16 rfl hl (by decide) rfl (fun ls hl => ?_)
  refine lv_iconst (v := 5) hx hb dX3_fillSlots_17 (by decide) ?_
  refine lv_istore_n (lv' := [(3, .int 5), (2, .int 2), (0, .ref hw), (1, .ref hc)]) hx hb dX3_fillSlots_18 rfl hl (by decide) rfl (fun ls hl => ?_)
  refine W_ltW (σ := Int32 × OV) (6) (fun r9 k9 x9 H9 locs9 ls9 => va_P D vwCl (wX3 cI hw aw x9.2 ++ wX0 cI hc ac oc) H9 ∧ va_D A (wX3 cI hw aw x9.2 ++ wX0 cI hc ac oc) ∧ va_S A s.heap H9 locs9 ∧ lv_has ls9 4 [(3, .int (dn 5 k9)), (2, .int x9.1), (0, .ref hw), (1, .ref hc)] ∧ fX3_fillSlots_L19 oc r9 k9 x9.1 x9.2 = fX3_fillSlots_L19 oc (6) 0 2 (us (ub ow 2 (fJ7_fill_53178 300 (ow.2 2) 1000)) 0 1) ∧ ((x9.1 : Int32).toInt ≤ 2)) (2, (us (ub ow 2 (fJ7_fill_53178 300 (ow.2 2) 1000)) 0 1)) ⟨hP, hD, hS, lv_sub hl [0, 1, 2, 3] rfl, rfl, (show (2 : Int32).toInt ≤ 2 by decide)⟩ ?_ ?_
  · intro r1 k1 y1 H locs ls hr1 hI9 ih1
    obtain ⟨x2_1, ow1⟩ := y1
    obtain ⟨hP, hD, hS, hl, hG1, hi1⟩ := hI9
    have hP : va_P D vwCl (wX3 cI hw aw ow1 ++ wX0 cI hc ac oc) H := hP
    have hD : va_D A (wX3 cI hw aw ow1 ++ wX0 cI hc ac oc) := hD
    have hG1 : fX3_fillSlots_L19 oc (r1 + 1) k1 x2_1 ow1 = fX3_fillSlots_L19 oc (6) 0 2 (us (ub ow 2 (fJ7_fill_53178 300 (ow.2 2) 1000)) 0 1) := hG1
    have hi1 : (x2_1 : Int32).toInt ≤ 2 := hi1
    have hl : lv_has ls 4 [(3, .int (dn 5 k1)), (2, .int x2_1), (0, .ref hw), (1, .ref hc)] := hl
    have hk1 : k1 < 6 := by omega
    refine lv_iload_n hx hb dX3_fillSlots_19 rfl (lv_at hl 0 rfl) ?_
    refine lv_if_lt (tgt := 81) hx hb dX3_fillSlots_20 (by decide) (fun c2 => absurd c2 (dn_nneg hk1 (by decide))) (fun c2 => ?_)
    refine lv_iload_n hx hb dX3_fillSlots_23 rfl (lv_at hl 1 rfl) ?_
    refine lv_if_lt (tgt := 81) hx hb dX3_fillSlots_24 (by decide) (fun c3 => ?_) (fun c3 => ?_)
    · skip
      have e9 : fX3_fillSlots ow oc = ow1 := by
        refine Eq.trans (b := fX3_fillSlots_L19 oc (6) 0 2 (us (ub ow 2 (fJ7_fill_53178 300 (ow.2 2) 1000)) 0 1)) ?_ ?_
        · rfl
        · rw [← hG1]; simp only [fX3_fillSlots_L19, if_pos c3]
      exact W.vret hx hb hr (fun t ht hW => ⟨⟨ow1, rfl, e9.symm, ⟨by rw [ht]; exact hP, hD⟩⟩, hS.F ht⟩) hS.2.2 dX3_fillSlots_81
    · skip
      refine lv_aload_n hx hb dX3_fillSlots_27 rfl (lv_at hl 3 rfl) ?_
      refine lv_iload_n hx hb dX3_fillSlots_28 rfl (lv_at hl 0 rfl) ?_
      refine rcVi (b := hc) (As := [.int (dn 5 k1)]) (rest := []) hSF (kX0_isThere l D cI cZ cC hc ac oc (dn 5 k1)) (cwV 1 hts gX3_fillSlots_X0_isThere rfl rfl rfl (by decide +kernel) ⟨Nat.le_of_ble_eq_true rfl, Nat.le_of_ble_eq_true rfl⟩) (va_recv hK hP (ci := 0) (q0 := 5) rfl rfl) (hP.sub [5, 6, 7, 8, 9, 10] rfl) hK hN rfl rfl hl.1 (Nat.le_of_ble_eq_true rfl) dX3_fillSlots_29 ⟨Nat.zero_le _, Nat.zero_le _⟩ ?_
      refine lv_if_ne (tgt := 38) hx hb dX3_fillSlots_32 (by decide) (fun c4 => ?_) (fun c4 => ?_)
      · skip
        refine lv_aload_n hx hb dX3_fillSlots_38 rfl (lv_at hl 3 rfl) ?_
        refine va_get (D := D) (ci := 0) (v := .int (oc.1 3)) (C := RX0) (T := TX0) (N := 12) hx hb hts hi0 hown hK hP 5 rfl rfl 3 (by decide) hf55 (fun _ h9 => h9) rfl dX3_fillSlots_39 ?_
        refine lv_iload_n hx hb dX3_fillSlots_42 rfl (lv_at hl 0 rfl) ?_
        refine rcNi (As := [.int (oc.1 3), .int (dn 5 k1)]) (rest := []) hSF (kX4_hasBit l D cI cZ cC (oc.1 3) (dn 5 k1)) (va_cnB 2 hts gX3_fillSlots_X4_hasBit_n58 rfl rfl rfl (hN.1 (.methodLinkNest RX3 58 yX4_hasBit "UmbrellaVote") (by decide +kernel)) (hts (.initialized RX4) (by decide +kernel)) (by decide +kernel) ⟨Nat.le_of_ble_eq_true rfl, Nat.le_of_ble_eq_true rfl⟩) (hts (.static yX4_hasBit) (by decide +kernel)) (hP.sub [] rfl) hK hN rfl rfl hl.1 (Nat.le_of_ble_eq_true rfl) dX3_fillSlots_43 ⟨Nat.zero_le _, Nat.zero_le _⟩ ?_
        refine lv_if_ne (tgt := 61) hx hb dX3_fillSlots_46 (by decide) (fun c5 => ?_) (fun c5 => ?_)
        · skip
          refine lv_iinc (v := (x2_1 + (-1))) (lv' := [(2, .int (x2_1 + (-1))), (3, .int (dn 5 k1)), (0, .ref hw), (1, .ref hc)]) hx hb dX3_fillSlots_61 hl (k := 1) rfl rfl (by decide) rfl (fun ls hl => ?_)
          refine lv_aload_n hx hb dX3_fillSlots_64 rfl (lv_at hl 2 rfl) ?_
          refine lv_dup hx hb dX3_fillSlots_65 rfl ?_
          refine va_get (D := D) (ci := 3) (v := .int (ow1.1 0)) (C := RX3) (T := TX3) (N := 5) hx hb hts hi3 hown hK hP 0 rfl rfl 0 (by decide) hf43 (fun _ h9 => h9) rfl dX3_fillSlots_66 ?_
          refine lv_bipush (v := 10) hx hb dX3_fillSlots_69 (by decide) ?_
          refine lv_imul hx hb dX3_fillSlots_71 ?_
          refine va_put (D := D) (ci := 3) (v := .int ((ow1.1 0) * 10)) (ty := .int) (C := RX3) (T := TX3) (N := 5) hx hb hts hi3 tyX3 tyX3_ok nmX3 hown hK hP hD hS 0 rfl rfl 0 (by decide) hf43 (fun _ h9 => h9) rfl (by decide +kernel) rfl rfl (Nat.le_of_ble_eq_true rfl) dX3_fillSlots_72 (fun H locs hP hD hS => ?_)
          have hP : va_P D vwCl (wX3 cI hw aw (us ow1 0 ((ow1.1 0) * 10)) ++ wX0 cI hc ac oc) H := hP
          have hD : va_D A (wX3 cI hw aw (us ow1 0 ((ow1.1 0) * 10)) ++ wX0 cI hc ac oc) := hD
          refine lv_iinc (v := ((dn 5 k1) + (-1))) (lv' := [(3, .int ((dn 5 k1) + (-1))), (2, .int (x2_1 + (-1))), (0, .ref hw), (1, .ref hc)]) hx hb dX3_fillSlots_75 hl (k := 1) rfl rfl (by decide) rfl (fun ls hl => ?_)
          refine lv_goto (tgt := 19) hx hb dX3_fillSlots_78 (by decide) ?_
          have hl9 : lv_has ls 4 [(3, .int (dn 5 (k1 + 1))), (2, .int (x2_1 + (-1))), (0, .ref hw), (1, .ref hc)] := by
            rw [dn_succ hk1]; exact lv_sub hl [0, 1, 2, 3] rfl
          have e8 : fX3_fillSlots_L19 oc r1 (k1 + 1) (x2_1 + (-1)) (us ow1 0 ((ow1.1 0) * 10)) = fX3_fillSlots_L19 oc (6) 0 2 (us (ub ow 2 (fJ7_fill_53178 300 (ow.2 2) 1000)) 0 1) := by
            rw [← hG1]
            simp only [fX3_fillSlots_L19, if_neg c3, if_neg c4, if_neg c5]
          have h7 : ((x2_1 + (-1)) : Int32).toInt ≤ 2 := by
            first | (with_reducible exact hi1) | exact sl_dec hi1 (by with_reducible assumption)
          exact ih1 ((x2_1 + (-1)), (us ow1 0 ((ow1.1 0) * 10))) H locs ls ⟨hP, hD, hS, hl9, e8, h7⟩
        · skip
          refine lv_aload_n hx hb dX3_fillSlots_49 rfl (lv_at hl 2 rfl) ?_
          refine lv_aload_n hx hb dX3_fillSlots_50 rfl (lv_at hl 3 rfl) ?_
          refine lv_aload_n hx hb dX3_fillSlots_51 rfl (lv_at hl 3 rfl) ?_
          refine va_get (D := D) (ci := 0) (v := .ref (ac 8)) (C := RX0) (T := TX0) (N := 12) hx hb hts hi0 hown hK hP 5 rfl rfl 8 (by decide) hf62 (fun _ h9 => h9) rfl dX3_fillSlots_52 ?_
          refine lv_iload_n hx hb dX3_fillSlots_55 rfl (lv_at hl 0 rfl) ?_
          refine va_iald (f := (oc.2 8)) hx hb hK hP 7 0 rfl rfl (dn_vin hk1 (by decide) (by decide)) dX3_fillSlots_56 ?_
          refine lv_iload_n hx hb dX3_fillSlots_57 rfl (lv_at hl 1 rfl) ?_
          refine wcVv (b := hw) (As := [.ref hc, .int ((oc.2 8) (dn 5 k1).toNatClampNeg), .int x2_1]) (rest := []) (wr := []) (ws' := wX3 cI hw aw (fX3_fillTimes ow1 oc ((oc.2 8) (dn 5 k1).toNatClampNeg) x2_1) ++ wX0 cI hc ac oc) hSF (kX3_fillTimes l D cI cZ cC hw aw ow1 hc ac oc ((oc.2 8) (dn 5 k1).toNatClampNeg) x2_1 (sl_ex hi1 (by with_reducible assumption))) (cwV 3 hts gX3_fillSlots_X3_fillTimes rfl rfl rfl (by decide +kernel) ⟨Nat.le_of_ble_eq_true rfl, Nat.le_of_ble_eq_true rfl⟩) (va_recv hK hP (ci := 3) (q0 := 0) rfl rfl) hP hD hS hA hK hN [0, 1, 2, 3, 4, 5, 6, 7, 8, 9, 10] [] [0, 1, 2, 3, 4, 5, 6, 7, 8, 9, 10] rfl (by decide) rfl (by decide) (by decide) rfl (by decide) rfl rfl hl.1 (Nat.le_of_ble_eq_true rfl) dX3_fillSlots_58 ⟨Nat.zero_le _, Nat.zero_le _⟩ (fun H locs hP hD hS => ?_)
          refine lv_iinc (v := (x2_1 + (-1))) (lv' := [(2, .int (x2_1 + (-1))), (3, .int (dn 5 k1)), (0, .ref hw), (1, .ref hc)]) hx hb dX3_fillSlots_61 hl (k := 1) rfl rfl (by decide) rfl (fun ls hl => ?_)
          refine lv_aload_n hx hb dX3_fillSlots_64 rfl (lv_at hl 2 rfl) ?_
          refine lv_dup hx hb dX3_fillSlots_65 rfl ?_
          refine va_get (D := D) (ci := 3) (v := .int ((fX3_fillTimes ow1 oc ((oc.2 8) (dn 5 k1).toNatClampNeg) x2_1).1 0)) (C := RX3) (T := TX3) (N := 5) hx hb hts hi3 hown hK hP 0 rfl rfl 0 (by decide) hf43 (fun _ h9 => h9) rfl dX3_fillSlots_66 ?_
          refine lv_bipush (v := 10) hx hb dX3_fillSlots_69 (by decide) ?_
          refine lv_imul hx hb dX3_fillSlots_71 ?_
          refine va_put (D := D) (ci := 3) (v := .int (((fX3_fillTimes ow1 oc ((oc.2 8) (dn 5 k1).toNatClampNeg) x2_1).1 0) * 10)) (ty := .int) (C := RX3) (T := TX3) (N := 5) hx hb hts hi3 tyX3 tyX3_ok nmX3 hown hK hP hD hS 0 rfl rfl 0 (by decide) hf43 (fun _ h9 => h9) rfl (by decide +kernel) rfl rfl (Nat.le_of_ble_eq_true rfl) dX3_fillSlots_72 (fun H locs hP hD hS => ?_)
          rw [sw_wc_w_s0] at hP hD
          have hP : va_P D vwCl (wX3 cI hw aw (us (fX3_fillTimes ow1 oc ((oc.2 8) (dn 5 k1).toNatClampNeg) x2_1) 0 (((fX3_fillTimes ow1 oc ((oc.2 8) (dn 5 k1).toNatClampNeg) x2_1).1 0) * 10)) ++ wX0 cI hc ac oc) H := hP
          have hD : va_D A (wX3 cI hw aw (us (fX3_fillTimes ow1 oc ((oc.2 8) (dn 5 k1).toNatClampNeg) x2_1) 0 (((fX3_fillTimes ow1 oc ((oc.2 8) (dn 5 k1).toNatClampNeg) x2_1).1 0) * 10)) ++ wX0 cI hc ac oc) := hD
          refine lv_iinc (v := ((dn 5 k1) + (-1))) (lv' := [(3, .int ((dn 5 k1) + (-1))), (2, .int (x2_1 + (-1))), (0, .ref hw), (1, .ref hc)]) hx hb dX3_fillSlots_75 hl (k := 1) rfl rfl (by decide) rfl (fun ls hl => ?_)
          refine lv_goto (tgt := 19) hx hb dX3_fillSlots_78 (by decide) ?_
          have hl9 : lv_has ls 4 [(3, .int (dn 5 (k1 + 1))), (2, .int (x2_1 + (-1))), (0, .ref hw), (1, .ref hc)] := by
            rw [dn_succ hk1]; exact lv_sub hl [0, 1, 2, 3] rfl
          have e8 : fX3_fillSlots_L19 oc r1 (k1 + 1) (x2_1 + (-1)) (us (fX3_fillTimes ow1 oc ((oc.2 8) (dn 5 k1).toNatClampNeg) x2_1) 0 (((fX3_fillTimes ow1 oc ((oc.2 8) (dn 5 k1).toNatClampNeg) x2_1).1 0) * 10)) = fX3_fillSlots_L19 oc (6) 0 2 (us (ub ow 2 (fJ7_fill_53178 300 (ow.2 2) 1000)) 0 1) := by
            rw [← hG1]
            simp only [fX3_fillSlots_L19, if_neg c3, if_neg c4, if_pos c5]
          have h7 : ((x2_1 + (-1)) : Int32).toInt ≤ 2 := by
            first | (with_reducible exact hi1) | exact sl_dec hi1 (by with_reducible assumption)
          exact ih1 ((x2_1 + (-1)), (us (fX3_fillTimes ow1 oc ((oc.2 8) (dn 5 k1).toNatClampNeg) x2_1) 0 (((fX3_fillTimes ow1 oc ((oc.2 8) (dn 5 k1).toNatClampNeg) x2_1).1 0) * 10))) H locs ls ⟨hP, hD, hS, hl9, e8, h7⟩
      · skip
        refine lv_goto (tgt := 75) hx hb dX3_fillSlots_35 (by decide) ?_
        refine lv_iinc (v := ((dn 5 k1) + (-1))) (lv' := [(3, .int ((dn 5 k1) + (-1))), (2, .int x2_1), (0, .ref hw), (1, .ref hc)]) hx hb dX3_fillSlots_75 hl (k := 0) rfl rfl (by decide) rfl (fun ls hl => ?_)
        refine lv_goto (tgt := 19) hx hb dX3_fillSlots_78 (by decide) ?_
        have hl9 : lv_has ls 4 [(3, .int (dn 5 (k1 + 1))), (2, .int x2_1), (0, .ref hw), (1, .ref hc)] := by
          rw [dn_succ hk1]; exact lv_sub hl [0, 1, 2, 3] rfl
        have e8 : fX3_fillSlots_L19 oc r1 (k1 + 1) x2_1 ow1 = fX3_fillSlots_L19 oc (6) 0 2 (us (ub ow 2 (fJ7_fill_53178 300 (ow.2 2) 1000)) 0 1) := by
          rw [← hG1]
          simp only [fX3_fillSlots_L19, if_neg c3, if_pos c4]
        have h7 : (x2_1 : Int32).toInt ≤ 2 := by
          first | (with_reducible exact hi1) | exact sl_dec hi1 (by with_reducible assumption)
        exact ih1 (x2_1, ow1) H locs ls ⟨hP, hD, hS, hl9, e8, h7⟩
  intro k1 y1 H locs ls hB1 hI9
  obtain ⟨x2_1, ow1⟩ := y1
  obtain ⟨hP, hD, hS, hl, hG1, hi1⟩ := hI9
  have hP : va_P D vwCl (wX3 cI hw aw ow1 ++ wX0 cI hc ac oc) H := hP
  have hD : va_D A (wX3 cI hw aw ow1 ++ wX0 cI hc ac oc) := hD
  have hG1 : fX3_fillSlots_L19 oc 0 k1 x2_1 ow1 = fX3_fillSlots_L19 oc (6) 0 2 (us (ub ow 2 (fJ7_fill_53178 300 (ow.2 2) 1000)) 0 1) := hG1
  have hi1 : (x2_1 : Int32).toInt ≤ 2 := hi1
  have hl : lv_has ls 4 [(3, .int (dn 5 k1)), (2, .int x2_1), (0, .ref hw), (1, .ref hc)] := hl
  refine lv_iload_n hx hb dX3_fillSlots_19 rfl (lv_at hl 0 rfl) ?_
  refine lv_if_lt (tgt := 81) hx hb dX3_fillSlots_20 (by decide) (fun c6 => ?_) (fun c6 => absurd (by rw [hB1]; exact dn_neg 5) c6)
  have e9 : fX3_fillSlots ow oc = ow1 := by
    refine Eq.trans (b := fX3_fillSlots_L19 oc (6) 0 2 (us (ub ow 2 (fJ7_fill_53178 300 (ow.2 2) 1000)) 0 1)) ?_ ?_
    · rfl
    · rw [← hG1]; rfl
  exact W.vret hx hb hr (fun t ht hW => ⟨⟨ow1, rfl, e9.symm, ⟨by rw [ht]; exact hP, hD⟩⟩, hS.F ht⟩) hS.2.2 dX3_fillSlots_81

set_option maxHeartbeats 4000000 in
set_option maxRecDepth 100000 in
theorem kX3_weighRow (l : Launch) (D : va_G) (cI cZ cC : ClassId) (hw : Nat) (aw : Nat → Nat) (ow : OV) (p0 : Int32) (hr9 : ∃ k9 : Nat, k9 < 1000 ∧ p0 = nI k9) {sz : Nat} : Met l yX3_weighRow wsX3_weighRow ({ frames := 2, cells := 0, slots := 0, locals := 38 }) (pW D (tyv cI cZ cC) (wX3 cI hw aw ow) sz [.ref hw, .int p0]) (va_Qv (fun (u : OV) => u = fX3_weighRow ow p0) (qW D (fun (u : OV) => wX3 cI hw aw u) (va_A (wX3 cI hw aw ow) sz)) (va_A (wX3 cI hw aw ow) sz)) 0 0 (va_A (wX3 cI hw aw ow) sz) := by
  refine Met.ofW (cc := cX3_weighRow) (maxL := 18) (ret := none) (by decide) rfl ?_
  intro p e s m args below meth c s₁ B hml hv
  obtain ⟨rfl, hsz, hP, hK, hN, hD0⟩ := hv
  have hx := B.exec
  have hb := B.bytes
  have hr := B.returns
  have hts := atoms_spec (ws := wsX3_weighRow) B.pre
  have hown : s.vm.findClass RX3 = some m.cls := findClass_of_methodNamed B.named
  have hlocks := B.notSynchronized
  subst hsz
  have hD := hD0.self (sz := s.heap.size)
  generalize hAe : va_A (wX3 cI hw aw ow) s.heap.size = A at hD ⊢
  have hA : ∀ q : Nat, s.heap.size ≤ q → A q := fun q h => by rw [← hAe]; exact Or.inr h
  have hS : va_S A s.heap s.heap [] := va_S.rf
  have hP : va_P D vwCl (wX3 cI hw aw ow) s.heap := hP
  have hl := lv_entry ([.ref hw, .int p0]) (n := 18) (Nat.le_of_ble_eq_true rfl)
  rw [lg_entry_eq]
  generalize (lg_sl ([.ref hw, .int p0]) ++ List.replicate (18 - (lg_sl ([.ref hw, .int p0])).length) Slot.unset).toArray = ls at hl ⊢
  have hl : lv_has ls 18 [(0, .ref hw), (1, .int p0)] := hl
  have hSF : CallFix p m c cX3_weighRow 18 s _ wsX3_weighRow RX3 := ⟨hx, hb, hml, hown, hts⟩
  have hi3 : ∀ w ∈ wsX30, w ∈ wsX3_weighRow := by decide +kernel
  have hf15 : (Cond.fieldLink RX3 15 "UmbrellaVote$Resting" "times" "[I").before _ s = true := hts _ (by decide +kernel)
  have hf9 : (Cond.fieldLink RX3 9 "UmbrellaVote$Resting" "weights" "[I").before _ s = true := hts _ (by decide +kernel)
  refine lv_iload_n hx hb dX3_weighRow_0 rfl (lv_at hl 1 rfl) ?_
  refine lv_bipush (v := 100) hx hb dX3_weighRow_1 (by decide) ?_
  refine lv_idiv hx hb dX3_weighRow_3 (by decide) ?_
  refine lv_istore_n (lv' := [(2, .int (p0 / 100)), (0, .ref hw), (1, .int p0)]) hx hb dX3_weighRow_4 rfl hl (by decide) rfl (fun ls hl => ?_)
  refine lv_iload_n hx hb dX3_weighRow_5 rfl (lv_at hl 2 rfl) ?_
  refine lv_bipush (v := 10) hx hb dX3_weighRow_6 (by decide) ?_
  refine lv_idiv hx hb dX3_weighRow_8 (by decide) ?_
  refine lv_bipush (v := 10) hx hb dX3_weighRow_9 (by decide) ?_
  refine lv_irem hx hb dX3_weighRow_11 (by decide) ?_
  refine lv_istore_n (lv' := [(3, .int ((p0 / 10) - (p0 / 10) / 10 * 10)), (2, .int (p0 / 100)), (0, .ref hw), (1, .int p0)]) hx hb dX3_weighRow_12 rfl hl (by decide) rfl (fun ls hl => ?_)
  refine lv_iload_n hx hb dX3_weighRow_13 rfl (lv_at hl 3 rfl) ?_
  refine lv_bipush (v := 10) hx hb dX3_weighRow_14 (by decide) ?_
  refine lv_irem hx hb dX3_weighRow_16 (by decide) ?_
  refine lv_istore (lv' := [(4, .int (p0 - p0 / 10 * 10)), (3, .int ((p0 / 10) - (p0 / 10) / 10 * 10)), (2, .int (p0 / 100)), (0, .ref hw), (1, .int p0)]) hx hb dX3_weighRow_17 hl (by decide) rfl (fun ls hl => ?_)
  refine lv_iconst (v := 0) hx hb dX3_weighRow_19 (by decide) ?_
  refine lv_iload_n hx hb dX3_weighRow_20 rfl (lv_at hl 2 rfl) ?_
  refine lv_iconst (v := 0) hx hb dX3_weighRow_21 (by decide) ?_
  refine rcSi (As := [.int 0, .int (p0 / 100), .int 0]) (rest := []) hSF (kX3_pair l D cI cZ cC 0 (p0 / 100) 0) (va_cwS 3 hts gX3_weighRow_X3_pair rfl rfl rfl (by decide +kernel) ⟨Nat.le_of_ble_eq_true rfl, Nat.le_of_ble_eq_true rfl⟩) (hP.sub [] rfl) hK hN rfl rfl hl.1 (Nat.le_of_ble_eq_true rfl) dX3_weighRow_22 ⟨Nat.zero_le _, Nat.zero_le _⟩ ?_
  refine lv_istore (lv' := [(5, .int (fX3_pair 0 (p0 / 100) 0)), (4, .int (p0 - p0 / 10 * 10)), (3, .int ((p0 / 10) - (p0 / 10) / 10 * 10)), (2, .int (p0 / 100)), (0, .ref hw), (1, .int p0)]) hx hb dX3_weighRow_25 hl (by decide) rfl (fun ls hl => ?_)
  refine lv_iconst (v := 1) hx hb dX3_weighRow_27 (by decide) ?_
  refine lv_iload_n hx hb dX3_weighRow_28 rfl (lv_at hl 2 rfl) ?_
  refine lv_iconst (v := 0) hx hb dX3_weighRow_29 (by decide) ?_
  refine rcSi (As := [.int 1, .int ((p0 / 10) - (p0 / 10) / 10 * 10), .int 0]) (rest := []) hSF (kX3_pair l D cI cZ cC 1 ((p0 / 10) - (p0 / 10) / 10 * 10) 0) (va_cwS 3 hts gX3_weighRow_X3_pair rfl rfl rfl (by decide +kernel) ⟨Nat.le_of_ble_eq_true rfl, Nat.le_of_ble_eq_true rfl⟩) (hP.sub [] rfl) hK hN rfl rfl hl.1 (Nat.le_of_ble_eq_true rfl) dX3_weighRow_30 ⟨Nat.zero_le _, Nat.zero_le _⟩ ?_
  refine lv_istore (lv' := [(6, .int (fX3_pair 1 ((p0 / 10) - (p0 / 10) / 10 * 10) 0)), (5, .int (fX3_pair 0 (p0 / 100) 0)), (4, .int (p0 - p0 / 10 * 10)), (3, .int ((p0 / 10) - (p0 / 10) / 10 * 10)), (2, .int (p0 / 100)), (0, .ref hw), (1, .int p0)]) hx hb dX3_weighRow_33 hl (by decide) rfl (fun ls hl => ?_)
  refine lv_iconst (v := 2) hx hb dX3_weighRow_35 (by decide) ?_
  refine lv_iload hx hb dX3_weighRow_36 (lv_at hl 2 rfl) ?_
  refine lv_iconst (v := 0) hx hb dX3_weighRow_38 (by decide) ?_
  refine rcSi (As := [.int 2, .int (p0 - p0 / 10 * 10), .int 0]) (rest := []) hSF (kX3_pair l D cI cZ cC 2 (p0 - p0 / 10 * 10) 0) (va_cwS 3 hts gX3_weighRow_X3_pair rfl rfl rfl (by decide +kernel) ⟨Nat.le_of_ble_eq_true rfl, Nat.le_of_ble_eq_true rfl⟩) (hP.sub [] rfl) hK hN rfl rfl hl.1 (Nat.le_of_ble_eq_true rfl) dX3_weighRow_39 ⟨Nat.zero_le _, Nat.zero_le _⟩ ?_
  refine lv_istore (lv' := [(7, .int (fX3_pair 2 (p0 - p0 / 10 * 10) 0)), (6, .int (fX3_pair 1 ((p0 / 10) - (p0 / 10) / 10 * 10) 0)), (5, .int (fX3_pair 0 (p0 / 100) 0)), (4, .int (p0 - p0 / 10 * 10)), (3, .int ((p0 / 10) - (p0 / 10) / 10 * 10)), (2, .int (p0 / 100)), (0, .ref hw), (1, .int p0)]) hx hb dX3_weighRow_42 hl (by decide) rfl (fun ls hl => ?_)
  refine lv_iconst (v := 0) hx hb dX3_weighRow_44 (by decide) ?_
  refine lv_istore (lv' := [(8, .int 0), (7, .int (fX3_pair 2 (p0 - p0 / 10 * 10) 0)), (6, .int (fX3_pair 1 ((p0 / 10) - (p0 / 10) / 10 * 10) 0)), (5, .int (fX3_pair 0 (p0 / 100) 0)), (4, .int (p0 - p0 / 10 * 10)), (3, .int ((p0 / 10) - (p0 / 10) / 10 * 10)), (2, .int (p0 / 100)), (0, .ref hw), (1, .int p0)]) hx hb dX3_weighRow_45 hl (by decide) rfl (fun ls hl => ?_)
  refine lv_iconst (v := 0) hx hb dX3_weighRow_47 (by decide) ?_
  refine lv_istore (lv' := [(9, .int 0), (8, .int 0), (7, .int (fX3_pair 2 (p0 - p0 / 10 * 10) 0)), (6, .int (fX3_pair 1 ((p0 / 10) - (p0 / 10) / 10 * 10) 0)), (5, .int (fX3_pair 0 (p0 / 100) 0)), (4, .int (p0 - p0 / 10 * 10)), (3, .int ((p0 / 10) - (p0 / 10) / 10 * 10)), (2, .int (p0 / 100)), (0, .ref hw), (1, .int p0)]) hx hb dX3_weighRow_48 hl (by decide) rfl (fun ls hl => ?_)
  refine lv_iconst (v := 0) hx hb dX3_weighRow_50 (by decide) ?_
  refine lv_istore (lv' := [(10, .int 0), (9, .int 0), (8, .int 0), (7, .int (fX3_pair 2 (p0 - p0 / 10 * 10) 0)), (6, .int (fX3_pair 1 ((p0 / 10) - (p0 / 10) / 10 * 10) 0)), (5, .int (fX3_pair 0 (p0 / 100) 0)), (4, .int (p0 - p0 / 10 * 10)), (3, .int ((p0 / 10) - (p0 / 10) / 10 * 10)), (2, .int (p0 / 100)), (0, .ref hw), (1, .int p0)]) hx hb dX3_weighRow_51 hl (by decide) rfl (fun ls hl => ?_)
  refine lv_iconst (v := 0) hx hb dX3_weighRow_53 (by decide) ?_
  refine lv_istore (lv' := [(11, .int 0), (10, .int 0), (9, .int 0), (8, .int 0), (7, .int (fX3_pair 2 (p0 - p0 / 10 * 10) 0)), (6, .int (fX3_pair 1 ((p0 / 10) - (p0 / 10) / 10 * 10) 0)), (5, .int (fX3_pair 0 (p0 / 100) 0)), (4, .int (p0 - p0 / 10 * 10)), (3, .int ((p0 / 10) - (p0 / 10) / 10 * 10)), (2, .int (p0 / 100)), (0, .ref hw), (1, .int p0)]) hx hb dX3_weighRow_54 hl (by decide) rfl (fun ls hl => ?_)
  refine W_lpR (10) (fun k9 ls9 => lv_has ls9 18 [(11, .int (nI k9)), (10, .int (fX3_weighRow_L56 ow p0 0 0 0 k9).1), (9, .int (fX3_weighRow_L56 ow p0 0 0 0 k9).2.1), (8, .int (fX3_weighRow_L56 ow p0 0 0 0 k9).2.2), (7, .int (fX3_pair 2 (p0 - p0 / 10 * 10) 0)), (6, .int (fX3_pair 1 ((p0 / 10) - (p0 / 10) / 10 * 10) 0)), (5, .int (fX3_pair 0 (p0 / 100) 0)), (4, .int (p0 - p0 / 10 * 10)), (3, .int ((p0 / 10) - (p0 / 10) / 10 * 10)), (2, .int (p0 / 100)), (0, .ref hw), (1, .int p0)]) (lv_sub hl [0, 1, 2, 3, 4, 5, 6, 7, 8, 9, 10, 11] rfl) ?_ ?_
  · intro k1 ls hk1 hl ih1
    generalize hs1 : fX3_weighRow_L56 ow p0 0 0 0 k1 = y1 at hl
    obtain ⟨x10_1, x9_1, x8_1⟩ := y1
    try dsimp only at hl
    refine lv_iload hx hb dX3_weighRow_56 (lv_at hl 0 rfl) ?_
    refine lv_bipush (v := 10) hx hb dX3_weighRow_58 (by decide) ?_
    refine lv_icmp_ge (tgt := 245) hx hb dX3_weighRow_60 (by decide) (fun c2 => absurd c2 (nI_ge hk1 (by decide))) (fun c2 => ?_)
    refine lv_aload_n hx hb dX3_weighRow_63 rfl (lv_at hl 10 rfl) ?_
    refine va_get (D := D) (ci := 3) (v := .ref (aw 2)) (C := RX3) (T := TX3) (N := 5) hx hb hts hi3 hown hK hP 0 rfl rfl 2 (by decide) hf15 (fun _ h9 => h9) rfl dX3_weighRow_64 ?_
    refine lv_iload hx hb dX3_weighRow_67 (lv_at hl 6 rfl) ?_
    refine lv_iload hx hb dX3_weighRow_69 (lv_at hl 0 rfl) ?_
    refine lv_iadd hx hb dX3_weighRow_71 ?_
    refine va_iald (f := (ow.2 2)) hx hb hK hP 2 0 rfl rfl (by obtain ⟨k9, hk9, rfl⟩ := hr9; exact wr_0 hk9 hk1) dX3_weighRow_72 ?_
    refine lv_istore (lv' := [(12, .int ((ow.2 2) ((fX3_pair 0 (p0 / 100) 0) + (nI k1)).toNatClampNeg)), (11, .int (nI k1)), (10, .int x10_1), (9, .int x9_1), (8, .int x8_1), (7, .int (fX3_pair 2 (p0 - p0 / 10 * 10) 0)), (6, .int (fX3_pair 1 ((p0 / 10) - (p0 / 10) / 10 * 10) 0)), (5, .int (fX3_pair 0 (p0 / 100) 0)), (4, .int (p0 - p0 / 10 * 10)), (3, .int ((p0 / 10) - (p0 / 10) / 10 * 10)), (2, .int (p0 / 100)), (0, .ref hw), (1, .int p0)]) hx hb dX3_weighRow_73 hl (by decide) rfl (fun ls hl => ?_)
    refine lv_aload_n hx hb dX3_weighRow_75 rfl (lv_at hl 11 rfl) ?_
    refine va_get (D := D) (ci := 3) (v := .ref (aw 2)) (C := RX3) (T := TX3) (N := 5) hx hb hts hi3 hown hK hP 0 rfl rfl 2 (by decide) hf15 (fun _ h9 => h9) rfl dX3_weighRow_76 ?_
    refine lv_iload hx hb dX3_weighRow_79 (lv_at hl 6 rfl) ?_
    refine lv_iload hx hb dX3_weighRow_81 (lv_at hl 1 rfl) ?_
    refine lv_iadd hx hb dX3_weighRow_83 ?_
    refine va_iald (f := (ow.2 2)) hx hb hK hP 2 0 rfl rfl (by obtain ⟨k9, hk9, rfl⟩ := hr9; exact wr_1 hk9 hk1) dX3_weighRow_84 ?_
    refine lv_istore (lv' := [(13, .int ((ow.2 2) ((fX3_pair 1 ((p0 / 10) - (p0 / 10) / 10 * 10) 0) + (nI k1)).toNatClampNeg)), (12, .int ((ow.2 2) ((fX3_pair 0 (p0 / 100) 0) + (nI k1)).toNatClampNeg)), (11, .int (nI k1)), (10, .int x10_1), (9, .int x9_1), (8, .int x8_1), (7, .int (fX3_pair 2 (p0 - p0 / 10 * 10) 0)), (6, .int (fX3_pair 1 ((p0 / 10) - (p0 / 10) / 10 * 10) 0)), (5, .int (fX3_pair 0 (p0 / 100) 0)), (4, .int (p0 - p0 / 10 * 10)), (3, .int ((p0 / 10) - (p0 / 10) / 10 * 10)), (2, .int (p0 / 100)), (0, .ref hw), (1, .int p0)]) hx hb dX3_weighRow_85 hl (by decide) rfl (fun ls hl => ?_)
    refine lv_aload_n hx hb dX3_weighRow_87 rfl (lv_at hl 12 rfl) ?_
    refine va_get (D := D) (ci := 3) (v := .ref (aw 2)) (C := RX3) (T := TX3) (N := 5) hx hb hts hi3 hown hK hP 0 rfl rfl 2 (by decide) hf15 (fun _ h9 => h9) rfl dX3_weighRow_88 ?_
    refine lv_iload hx hb dX3_weighRow_91 (lv_at hl 6 rfl) ?_
    refine lv_iload hx hb dX3_weighRow_93 (lv_at hl 2 rfl) ?_
    refine lv_iadd hx hb dX3_weighRow_95 ?_
    refine va_iald (f := (ow.2 2)) hx hb hK hP 2 0 rfl rfl (by obtain ⟨k9, hk9, rfl⟩ := hr9; exact wr_2 hk9 hk1) dX3_weighRow_96 ?_
    refine lv_istore (lv' := [(14, .int ((ow.2 2) ((fX3_pair 2 (p0 - p0 / 10 * 10) 0) + (nI k1)).toNatClampNeg)), (13, .int ((ow.2 2) ((fX3_pair 1 ((p0 / 10) - (p0 / 10) / 10 * 10) 0) + (nI k1)).toNatClampNeg)), (12, .int ((ow.2 2) ((fX3_pair 0 (p0 / 100) 0) + (nI k1)).toNatClampNeg)), (11, .int (nI k1)), (10, .int x10_1), (9, .int x9_1), (8, .int x8_1), (7, .int (fX3_pair 2 (p0 - p0 / 10 * 10) 0)), (6, .int (fX3_pair 1 ((p0 / 10) - (p0 / 10) / 10 * 10) 0)), (5, .int (fX3_pair 0 (p0 / 100) 0)), (4, .int (p0 - p0 / 10 * 10)), (3, .int ((p0 / 10) - (p0 / 10) / 10 * 10)), (2, .int (p0 / 100)), (0, .ref hw), (1, .int p0)]) hx hb dX3_weighRow_97 hl (by decide) rfl (fun ls hl => ?_)
    refine lv_iload hx hb dX3_weighRow_99 (lv_at hl 2 rfl) ?_
    refine lv_iload hx hb dX3_weighRow_101 (lv_at hl 1 rfl) ?_
    refine lv_iload hx hb dX3_weighRow_103 (lv_at hl 0 rfl) ?_
    refine va_mmin hx hb (by rw [hml]; exact hl.1.symm) hown (hts (.methodLink RX3 76 Lib.Math.min.name) (by decide +kernel)) (hts (.static Lib.Math.min.name) (by decide +kernel)) (hts (.initialized "java/lang/Math") (by decide +kernel)) (hts (.code Lib.Math.min.name Lib.Math.min.code 2 (some .int)) (by decide +kernel)) (Nat.le_of_ble_eq_true rfl) (Nat.le_of_ble_eq_true rfl) (Nat.zero_le _) (Nat.zero_le _) dX3_weighRow_105 ?_
    refine va_mmin hx hb (by rw [hml]; exact hl.1.symm) hown (hts (.methodLink RX3 76 Lib.Math.min.name) (by decide +kernel)) (hts (.static Lib.Math.min.name) (by decide +kernel)) (hts (.initialized "java/lang/Math") (by decide +kernel)) (hts (.code Lib.Math.min.name Lib.Math.min.code 2 (some .int)) (by decide +kernel)) (Nat.le_of_ble_eq_true rfl) (Nat.le_of_ble_eq_true rfl) (Nat.zero_le _) (Nat.zero_le _) dX3_weighRow_108 ?_
    refine lv_topi (fun x3 ex3 => ?_)
    refine lv_istore (lv' := [(15, .int x3), (14, .int ((ow.2 2) ((fX3_pair 2 (p0 - p0 / 10 * 10) 0) + (nI k1)).toNatClampNeg)), (13, .int ((ow.2 2) ((fX3_pair 1 ((p0 / 10) - (p0 / 10) / 10 * 10) 0) + (nI k1)).toNatClampNeg)), (12, .int ((ow.2 2) ((fX3_pair 0 (p0 / 100) 0) + (nI k1)).toNatClampNeg)), (11, .int (nI k1)), (10, .int x10_1), (9, .int x9_1), (8, .int x8_1), (7, .int (fX3_pair 2 (p0 - p0 / 10 * 10) 0)), (6, .int (fX3_pair 1 ((p0 / 10) - (p0 / 10) / 10 * 10) 0)), (5, .int (fX3_pair 0 (p0 / 100) 0)), (4, .int (p0 - p0 / 10 * 10)), (3, .int ((p0 / 10) - (p0 / 10) / 10 * 10)), (2, .int (p0 / 100)), (0, .ref hw), (1, .int p0)]) hx hb dX3_weighRow_111 hl (by decide) rfl (fun ls hl => ?_)
    refine lv_iload hx hb dX3_weighRow_113 (lv_at hl 3 rfl) ?_
    refine lv_iload hx hb dX3_weighRow_115 (lv_at hl 0 rfl) ?_
    refine W_itei (P := ((ow.2 2) ((fX3_pair 0 (p0 / 100) 0) + (nI k1)).toNatClampNeg) = x3) (a := 1) (b := 0) (J := 125) (ls9 := ls) (rest9 := []) (fun ja5 jb5 => ?_) ?_
    · refine lv_icmp_ne (tgt := 124) hx hb dX3_weighRow_117 (by decide) (fun c4 => ?_) (fun c4 => ?_)
      · skip
        refine lv_iconst (v := 0) hx hb dX3_weighRow_124 (by decide) ?_
        exact jb5 c4
      · skip
        refine lv_iconst (v := 1) hx hb dX3_weighRow_120 (by decide) ?_
        refine lv_goto (tgt := 125) hx hb dX3_weighRow_121 (by decide) ?_
        exact ja5 c4
    refine lv_iload hx hb dX3_weighRow_125 (lv_at hl 2 rfl) ?_
    refine lv_iload hx hb dX3_weighRow_127 (lv_at hl 0 rfl) ?_
    refine W_itei (P := ((ow.2 2) ((fX3_pair 1 ((p0 / 10) - (p0 / 10) / 10 * 10) 0) + (nI k1)).toNatClampNeg) = x3) (a := 1) (b := 0) (J := 137) (ls9 := ls) (rest9 := [.int (if ((ow.2 2) ((fX3_pair 0 (p0 / 100) 0) + (nI k1)).toNatClampNeg) = x3 then (1 : Int32) else 0)]) (fun ja7 jb7 => ?_) ?_
    · refine lv_icmp_ne (tgt := 136) hx hb dX3_weighRow_129 (by decide) (fun c6 => ?_) (fun c6 => ?_)
      · skip
        refine lv_iconst (v := 0) hx hb dX3_weighRow_136 (by decide) ?_
        exact jb7 c6
      · skip
        refine lv_iconst (v := 1) hx hb dX3_weighRow_132 (by decide) ?_
        refine lv_goto (tgt := 137) hx hb dX3_weighRow_133 (by decide) ?_
        exact ja7 c6
    refine lv_iadd hx hb dX3_weighRow_137 ?_
    refine lv_iload hx hb dX3_weighRow_138 (lv_at hl 1 rfl) ?_
    refine lv_iload hx hb dX3_weighRow_140 (lv_at hl 0 rfl) ?_
    refine W_itei (P := ((ow.2 2) ((fX3_pair 2 (p0 - p0 / 10 * 10) 0) + (nI k1)).toNatClampNeg) = x3) (a := 1) (b := 0) (J := 150) (ls9 := ls) (rest9 := [.int ((if ((ow.2 2) ((fX3_pair 0 (p0 / 100) 0) + (nI k1)).toNatClampNeg) = x3 then (1 : Int32) else 0) + (if ((ow.2 2) ((fX3_pair 1 ((p0 / 10) - (p0 / 10) / 10 * 10) 0) + (nI k1)).toNatClampNeg) = x3 then (1 : Int32) else 0))]) (fun ja9 jb9 => ?_) ?_
    · refine lv_icmp_ne (tgt := 149) hx hb dX3_weighRow_142 (by decide) (fun c8 => ?_) (fun c8 => ?_)
      · skip
        refine lv_iconst (v := 0) hx hb dX3_weighRow_149 (by decide) ?_
        exact jb9 c8
      · skip
        refine lv_iconst (v := 1) hx hb dX3_weighRow_145 (by decide) ?_
        refine lv_goto (tgt := 150) hx hb dX3_weighRow_146 (by decide) ?_
        exact ja9 c8
    refine lv_iadd hx hb dX3_weighRow_150 ?_
    refine lv_topi (fun x10 ex10 => ?_)
    refine lv_istore (lv' := [(16, .int x10), (15, .int x3), (14, .int ((ow.2 2) ((fX3_pair 2 (p0 - p0 / 10 * 10) 0) + (nI k1)).toNatClampNeg)), (13, .int ((ow.2 2) ((fX3_pair 1 ((p0 / 10) - (p0 / 10) / 10 * 10) 0) + (nI k1)).toNatClampNeg)), (12, .int ((ow.2 2) ((fX3_pair 0 (p0 / 100) 0) + (nI k1)).toNatClampNeg)), (11, .int (nI k1)), (10, .int x10_1), (9, .int x9_1), (8, .int x8_1), (7, .int (fX3_pair 2 (p0 - p0 / 10 * 10) 0)), (6, .int (fX3_pair 1 ((p0 / 10) - (p0 / 10) / 10 * 10) 0)), (5, .int (fX3_pair 0 (p0 / 100) 0)), (4, .int (p0 - p0 / 10 * 10)), (3, .int ((p0 / 10) - (p0 / 10) / 10 * 10)), (2, .int (p0 / 100)), (0, .ref hw), (1, .int p0)]) hx hb dX3_weighRow_151 hl (by decide) rfl (fun ls hl => ?_)
    refine lv_iload hx hb dX3_weighRow_153 (lv_at hl 1 rfl) ?_
    refine lv_sipush (v := 1000) hx hb dX3_weighRow_155 (by decide) ?_
    refine lv_icmp_eq (tgt := 239) hx hb dX3_weighRow_158 (by decide) (fun c11 => ?_) (fun c11 => ?_)
    · skip
      refine lv_iinc (v := ((nI k1) + 1)) (lv' := [(11, .int ((nI k1) + 1)), (16, .int x10), (15, .int x3), (14, .int ((ow.2 2) ((fX3_pair 2 (p0 - p0 / 10 * 10) 0) + (nI k1)).toNatClampNeg)), (13, .int ((ow.2 2) ((fX3_pair 1 ((p0 / 10) - (p0 / 10) / 10 * 10) 0) + (nI k1)).toNatClampNeg)), (12, .int ((ow.2 2) ((fX3_pair 0 (p0 / 100) 0) + (nI k1)).toNatClampNeg)), (10, .int x10_1), (9, .int x9_1), (8, .int x8_1), (7, .int (fX3_pair 2 (p0 - p0 / 10 * 10) 0)), (6, .int (fX3_pair 1 ((p0 / 10) - (p0 / 10) / 10 * 10) 0)), (5, .int (fX3_pair 0 (p0 / 100) 0)), (4, .int (p0 - p0 / 10 * 10)), (3, .int ((p0 / 10) - (p0 / 10) / 10 * 10)), (2, .int (p0 / 100)), (0, .ref hw), (1, .int p0)]) hx hb dX3_weighRow_239 hl (k := 5) rfl rfl (by decide) rfl (fun ls hl => ?_)
      refine lv_goto (tgt := 56) hx hb dX3_weighRow_242 (by decide) ?_
      have e8 : fX3_weighRow_L56s ow p0 k1 x10_1 x9_1 x8_1 = (x10_1, x9_1, x8_1) := by
        unfold fX3_weighRow_L56s
        rw [← ex3]
        unfold fX3_weighRow_L56s_x3
        rw [← ex10]
        simp only [fX3_weighRow_L56s_x3_x10, if_pos c11]
      have e7 : fX3_weighRow_L56 ow p0 0 0 0 (k1 + 1) = (x10_1, x9_1, x8_1) := by
        show fX3_weighRow_L56s ow p0 k1 (fX3_weighRow_L56 ow p0 0 0 0 k1).1 (fX3_weighRow_L56 ow p0 0 0 0 k1).2.1 (fX3_weighRow_L56 ow p0 0 0 0 k1).2.2 = _
        rw [hs1]; exact e8
      have hl9 : lv_has ls 18 [(11, .int (nI (k1 + 1))), (10, .int (fX3_weighRow_L56 ow p0 0 0 0 (k1 + 1)).1), (9, .int (fX3_weighRow_L56 ow p0 0 0 0 (k1 + 1)).2.1), (8, .int (fX3_weighRow_L56 ow p0 0 0 0 (k1 + 1)).2.2), (7, .int (fX3_pair 2 (p0 - p0 / 10 * 10) 0)), (6, .int (fX3_pair 1 ((p0 / 10) - (p0 / 10) / 10 * 10) 0)), (5, .int (fX3_pair 0 (p0 / 100) 0)), (4, .int (p0 - p0 / 10 * 10)), (3, .int ((p0 / 10) - (p0 / 10) / 10 * 10)), (2, .int (p0 / 100)), (0, .ref hw), (1, .int p0)] := by
        rw [nI_succ, e7]; exact lv_sub hl [0, 6, 7, 8, 9, 10, 11, 12, 13, 14, 15, 16] rfl
      exact ih1 ls hl9
    · skip
      refine lv_iload hx hb dX3_weighRow_161 (lv_at hl 0 rfl) ?_
      refine lv_iconst (v := 1) hx hb dX3_weighRow_163 (by decide) ?_
      refine lv_icmp_ge (tgt := 170) hx hb dX3_weighRow_164 (by decide) (fun c12 => ?_) (fun c12 => ?_)
      · skip
        refine lv_aload_n hx hb dX3_weighRow_170 rfl (lv_at hl 15 rfl) ?_
        refine va_get (D := D) (ci := 3) (v := .ref (aw 1)) (C := RX3) (T := TX3) (N := 5) hx hb hts hi3 hown hK hP 0 rfl rfl 1 (by decide) hf9 (fun _ h9 => h9) rfl dX3_weighRow_171 ?_
        refine lv_iload hx hb dX3_weighRow_174 (lv_at hl 5 rfl) ?_
        refine va_iald (f := (ow.2 1)) hx hb hK hP 1 0 rfl rfl (vp_in_nI (Nat.lt_of_lt_of_le hk1 (by decide)) (by decide)) dX3_weighRow_176 ?_
        refine lv_bipush (v := 60) hx hb dX3_weighRow_177 (by decide) ?_
        refine lv_iload hx hb dX3_weighRow_179 (lv_at hl 0 rfl) ?_
        refine lv_idiv hx hb dX3_weighRow_181 (by first | with_reducible assumption | exact nz_lt1 (by with_reducible assumption) | exact nz_lt1' (by with_reducible assumption) | exact nz_le0 (by with_reducible assumption)) ?_
        refine lv_imul hx hb dX3_weighRow_182 ?_
        refine lv_istore (lv' := [(17, .int (((ow.2 1) (nI k1).toNatClampNeg) * (60 / x10))), (16, .int x10), (15, .int x3), (14, .int ((ow.2 2) ((fX3_pair 2 (p0 - p0 / 10 * 10) 0) + (nI k1)).toNatClampNeg)), (13, .int ((ow.2 2) ((fX3_pair 1 ((p0 / 10) - (p0 / 10) / 10 * 10) 0) + (nI k1)).toNatClampNeg)), (12, .int ((ow.2 2) ((fX3_pair 0 (p0 / 100) 0) + (nI k1)).toNatClampNeg)), (11, .int (nI k1)), (10, .int x10_1), (9, .int x9_1), (8, .int x8_1), (7, .int (fX3_pair 2 (p0 - p0 / 10 * 10) 0)), (6, .int (fX3_pair 1 ((p0 / 10) - (p0 / 10) / 10 * 10) 0)), (5, .int (fX3_pair 0 (p0 / 100) 0)), (4, .int (p0 - p0 / 10 * 10)), (3, .int ((p0 / 10) - (p0 / 10) / 10 * 10)), (2, .int (p0 / 100)), (0, .ref hw), (1, .int p0)]) hx hb dX3_weighRow_183 hl (by decide) rfl (fun ls hl => ?_)
        refine lv_iload hx hb dX3_weighRow_185 (lv_at hl 9 rfl) ?_
        refine lv_iload hx hb dX3_weighRow_187 (lv_at hl 5 rfl) ?_
        refine lv_iload hx hb dX3_weighRow_189 (lv_at hl 2 rfl) ?_
        refine W_itei (P := ((ow.2 2) ((fX3_pair 0 (p0 / 100) 0) + (nI k1)).toNatClampNeg) = x3) (a := (((ow.2 1) (nI k1).toNatClampNeg) * (60 / x10))) (b := 0) (J := 200) (ls9 := ls) (rest9 := [.int x8_1]) (fun ja14 jb14 => ?_) ?_
        · refine lv_icmp_ne (tgt := 199) hx hb dX3_weighRow_191 (by decide) (fun c13 => ?_) (fun c13 => ?_)
          · skip
            refine lv_iconst (v := 0) hx hb dX3_weighRow_199 (by decide) ?_
            exact jb14 c13
          · skip
            refine lv_iload hx hb dX3_weighRow_194 (lv_at hl 0 rfl) ?_
            refine lv_goto (tgt := 200) hx hb dX3_weighRow_196 (by decide) ?_
            exact ja14 c13
        refine lv_iadd hx hb dX3_weighRow_200 ?_
        refine lv_topi (fun x15 ex15 => ?_)
        refine lv_istore (lv' := [(8, .int x15), (17, .int (((ow.2 1) (nI k1).toNatClampNeg) * (60 / x10))), (16, .int x10), (15, .int x3), (14, .int ((ow.2 2) ((fX3_pair 2 (p0 - p0 / 10 * 10) 0) + (nI k1)).toNatClampNeg)), (13, .int ((ow.2 2) ((fX3_pair 1 ((p0 / 10) - (p0 / 10) / 10 * 10) 0) + (nI k1)).toNatClampNeg)), (12, .int ((ow.2 2) ((fX3_pair 0 (p0 / 100) 0) + (nI k1)).toNatClampNeg)), (11, .int (nI k1)), (10, .int x10_1), (9, .int x9_1), (7, .int (fX3_pair 2 (p0 - p0 / 10 * 10) 0)), (6, .int (fX3_pair 1 ((p0 / 10) - (p0 / 10) / 10 * 10) 0)), (5, .int (fX3_pair 0 (p0 / 100) 0)), (4, .int (p0 - p0 / 10 * 10)), (3, .int ((p0 / 10) - (p0 / 10) / 10 * 10)), (2, .int (p0 / 100)), (0, .ref hw), (1, .int p0)]) hx hb dX3_weighRow_201 hl (by decide) rfl (fun ls hl => ?_)
        refine lv_iload hx hb dX3_weighRow_203 (lv_at hl 9 rfl) ?_
        refine lv_iload hx hb dX3_weighRow_205 (lv_at hl 5 rfl) ?_
        refine lv_iload hx hb dX3_weighRow_207 (lv_at hl 3 rfl) ?_
        refine W_itei (P := ((ow.2 2) ((fX3_pair 1 ((p0 / 10) - (p0 / 10) / 10 * 10) 0) + (nI k1)).toNatClampNeg) = x3) (a := (((ow.2 1) (nI k1).toNatClampNeg) * (60 / x10))) (b := 0) (J := 218) (ls9 := ls) (rest9 := [.int x9_1]) (fun ja17 jb17 => ?_) ?_
        · refine lv_icmp_ne (tgt := 217) hx hb dX3_weighRow_209 (by decide) (fun c16 => ?_) (fun c16 => ?_)
          · skip
            refine lv_iconst (v := 0) hx hb dX3_weighRow_217 (by decide) ?_
            exact jb17 c16
          · skip
            refine lv_iload hx hb dX3_weighRow_212 (lv_at hl 1 rfl) ?_
            refine lv_goto (tgt := 218) hx hb dX3_weighRow_214 (by decide) ?_
            exact ja17 c16
        refine lv_iadd hx hb dX3_weighRow_218 ?_
        refine lv_topi (fun x18 ex18 => ?_)
        refine lv_istore (lv' := [(9, .int x18), (8, .int x15), (17, .int (((ow.2 1) (nI k1).toNatClampNeg) * (60 / x10))), (16, .int x10), (15, .int x3), (14, .int ((ow.2 2) ((fX3_pair 2 (p0 - p0 / 10 * 10) 0) + (nI k1)).toNatClampNeg)), (13, .int ((ow.2 2) ((fX3_pair 1 ((p0 / 10) - (p0 / 10) / 10 * 10) 0) + (nI k1)).toNatClampNeg)), (12, .int ((ow.2 2) ((fX3_pair 0 (p0 / 100) 0) + (nI k1)).toNatClampNeg)), (11, .int (nI k1)), (10, .int x10_1), (7, .int (fX3_pair 2 (p0 - p0 / 10 * 10) 0)), (6, .int (fX3_pair 1 ((p0 / 10) - (p0 / 10) / 10 * 10) 0)), (5, .int (fX3_pair 0 (p0 / 100) 0)), (4, .int (p0 - p0 / 10 * 10)), (3, .int ((p0 / 10) - (p0 / 10) / 10 * 10)), (2, .int (p0 / 100)), (0, .ref hw), (1, .int p0)]) hx hb dX3_weighRow_219 hl (by decide) rfl (fun ls hl => ?_)
        refine lv_iload hx hb dX3_weighRow_221 (lv_at hl 9 rfl) ?_
        refine lv_iload hx hb dX3_weighRow_223 (lv_at hl 5 rfl) ?_
        refine lv_iload hx hb dX3_weighRow_225 (lv_at hl 4 rfl) ?_
        refine W_itei (P := ((ow.2 2) ((fX3_pair 2 (p0 - p0 / 10 * 10) 0) + (nI k1)).toNatClampNeg) = x3) (a := (((ow.2 1) (nI k1).toNatClampNeg) * (60 / x10))) (b := 0) (J := 236) (ls9 := ls) (rest9 := [.int x10_1]) (fun ja20 jb20 => ?_) ?_
        · refine lv_icmp_ne (tgt := 235) hx hb dX3_weighRow_227 (by decide) (fun c19 => ?_) (fun c19 => ?_)
          · skip
            refine lv_iconst (v := 0) hx hb dX3_weighRow_235 (by decide) ?_
            exact jb20 c19
          · skip
            refine lv_iload hx hb dX3_weighRow_230 (lv_at hl 2 rfl) ?_
            refine lv_goto (tgt := 236) hx hb dX3_weighRow_232 (by decide) ?_
            exact ja20 c19
        refine lv_iadd hx hb dX3_weighRow_236 ?_
        refine lv_topi (fun x21 ex21 => ?_)
        refine lv_istore (lv' := [(10, .int x21), (9, .int x18), (8, .int x15), (17, .int (((ow.2 1) (nI k1).toNatClampNeg) * (60 / x10))), (16, .int x10), (15, .int x3), (14, .int ((ow.2 2) ((fX3_pair 2 (p0 - p0 / 10 * 10) 0) + (nI k1)).toNatClampNeg)), (13, .int ((ow.2 2) ((fX3_pair 1 ((p0 / 10) - (p0 / 10) / 10 * 10) 0) + (nI k1)).toNatClampNeg)), (12, .int ((ow.2 2) ((fX3_pair 0 (p0 / 100) 0) + (nI k1)).toNatClampNeg)), (11, .int (nI k1)), (7, .int (fX3_pair 2 (p0 - p0 / 10 * 10) 0)), (6, .int (fX3_pair 1 ((p0 / 10) - (p0 / 10) / 10 * 10) 0)), (5, .int (fX3_pair 0 (p0 / 100) 0)), (4, .int (p0 - p0 / 10 * 10)), (3, .int ((p0 / 10) - (p0 / 10) / 10 * 10)), (2, .int (p0 / 100)), (0, .ref hw), (1, .int p0)]) hx hb dX3_weighRow_237 hl (by decide) rfl (fun ls hl => ?_)
        refine lv_iinc (v := ((nI k1) + 1)) (lv' := [(11, .int ((nI k1) + 1)), (10, .int x21), (9, .int x18), (8, .int x15), (17, .int (((ow.2 1) (nI k1).toNatClampNeg) * (60 / x10))), (16, .int x10), (15, .int x3), (14, .int ((ow.2 2) ((fX3_pair 2 (p0 - p0 / 10 * 10) 0) + (nI k1)).toNatClampNeg)), (13, .int ((ow.2 2) ((fX3_pair 1 ((p0 / 10) - (p0 / 10) / 10 * 10) 0) + (nI k1)).toNatClampNeg)), (12, .int ((ow.2 2) ((fX3_pair 0 (p0 / 100) 0) + (nI k1)).toNatClampNeg)), (7, .int (fX3_pair 2 (p0 - p0 / 10 * 10) 0)), (6, .int (fX3_pair 1 ((p0 / 10) - (p0 / 10) / 10 * 10) 0)), (5, .int (fX3_pair 0 (p0 / 100) 0)), (4, .int (p0 - p0 / 10 * 10)), (3, .int ((p0 / 10) - (p0 / 10) / 10 * 10)), (2, .int (p0 / 100)), (0, .ref hw), (1, .int p0)]) hx hb dX3_weighRow_239 hl (k := 9) rfl rfl (by decide) rfl (fun ls hl => ?_)
        refine lv_goto (tgt := 56) hx hb dX3_weighRow_242 (by decide) ?_
        have e8 : fX3_weighRow_L56s ow p0 k1 x10_1 x9_1 x8_1 = (x21, x18, x15) := by
          unfold fX3_weighRow_L56s
          rw [← ex3]
          unfold fX3_weighRow_L56s_x3
          rw [← ex10]
          simp only [fX3_weighRow_L56s_x3_x10, if_neg c11, if_pos c12]
          first | rw [← ex15] | (simp only [if_neg c11, if_pos c12] at ex15; rw [← ex15])
          unfold fX3_weighRow_L56s_x3_x10_x15
          rw [← ex18]
          unfold fX3_weighRow_L56s_x3_x10_x15_x18
          rw [← ex21]
          simp only [fX3_weighRow_L56s_x3_x10_x15_x18_x21, if_neg c11, if_pos c12]
        have e7 : fX3_weighRow_L56 ow p0 0 0 0 (k1 + 1) = (x21, x18, x15) := by
          show fX3_weighRow_L56s ow p0 k1 (fX3_weighRow_L56 ow p0 0 0 0 k1).1 (fX3_weighRow_L56 ow p0 0 0 0 k1).2.1 (fX3_weighRow_L56 ow p0 0 0 0 k1).2.2 = _
          rw [hs1]; exact e8
        have hl9 : lv_has ls 18 [(11, .int (nI (k1 + 1))), (10, .int (fX3_weighRow_L56 ow p0 0 0 0 (k1 + 1)).1), (9, .int (fX3_weighRow_L56 ow p0 0 0 0 (k1 + 1)).2.1), (8, .int (fX3_weighRow_L56 ow p0 0 0 0 (k1 + 1)).2.2), (7, .int (fX3_pair 2 (p0 - p0 / 10 * 10) 0)), (6, .int (fX3_pair 1 ((p0 / 10) - (p0 / 10) / 10 * 10) 0)), (5, .int (fX3_pair 0 (p0 / 100) 0)), (4, .int (p0 - p0 / 10 * 10)), (3, .int ((p0 / 10) - (p0 / 10) / 10 * 10)), (2, .int (p0 / 100)), (0, .ref hw), (1, .int p0)] := by
          rw [nI_succ, e7]; exact lv_sub hl [0, 1, 2, 3, 10, 11, 12, 13, 14, 15, 16, 17] rfl
        exact ih1 ls hl9
      · skip
        refine lv_goto (tgt := 239) hx hb dX3_weighRow_167 (by decide) ?_
        refine lv_iinc (v := ((nI k1) + 1)) (lv' := [(11, .int ((nI k1) + 1)), (16, .int x10), (15, .int x3), (14, .int ((ow.2 2) ((fX3_pair 2 (p0 - p0 / 10 * 10) 0) + (nI k1)).toNatClampNeg)), (13, .int ((ow.2 2) ((fX3_pair 1 ((p0 / 10) - (p0 / 10) / 10 * 10) 0) + (nI k1)).toNatClampNeg)), (12, .int ((ow.2 2) ((fX3_pair 0 (p0 / 100) 0) + (nI k1)).toNatClampNeg)), (10, .int x10_1), (9, .int x9_1), (8, .int x8_1), (7, .int (fX3_pair 2 (p0 - p0 / 10 * 10) 0)), (6, .int (fX3_pair 1 ((p0 / 10) - (p0 / 10) / 10 * 10) 0)), (5, .int (fX3_pair 0 (p0 / 100) 0)), (4, .int (p0 - p0 / 10 * 10)), (3, .int ((p0 / 10) - (p0 / 10) / 10 * 10)), (2, .int (p0 / 100)), (0, .ref hw), (1, .int p0)]) hx hb dX3_weighRow_239 hl (k := 5) rfl rfl (by decide) rfl (fun ls hl => ?_)
        refine lv_goto (tgt := 56) hx hb dX3_weighRow_242 (by decide) ?_
        have e8 : fX3_weighRow_L56s ow p0 k1 x10_1 x9_1 x8_1 = (x10_1, x9_1, x8_1) := by
          unfold fX3_weighRow_L56s
          rw [← ex3]
          unfold fX3_weighRow_L56s_x3
          rw [← ex10]
          simp only [fX3_weighRow_L56s_x3_x10, if_neg c11, if_neg c12]
        have e7 : fX3_weighRow_L56 ow p0 0 0 0 (k1 + 1) = (x10_1, x9_1, x8_1) := by
          show fX3_weighRow_L56s ow p0 k1 (fX3_weighRow_L56 ow p0 0 0 0 k1).1 (fX3_weighRow_L56 ow p0 0 0 0 k1).2.1 (fX3_weighRow_L56 ow p0 0 0 0 k1).2.2 = _
          rw [hs1]; exact e8
        have hl9 : lv_has ls 18 [(11, .int (nI (k1 + 1))), (10, .int (fX3_weighRow_L56 ow p0 0 0 0 (k1 + 1)).1), (9, .int (fX3_weighRow_L56 ow p0 0 0 0 (k1 + 1)).2.1), (8, .int (fX3_weighRow_L56 ow p0 0 0 0 (k1 + 1)).2.2), (7, .int (fX3_pair 2 (p0 - p0 / 10 * 10) 0)), (6, .int (fX3_pair 1 ((p0 / 10) - (p0 / 10) / 10 * 10) 0)), (5, .int (fX3_pair 0 (p0 / 100) 0)), (4, .int (p0 - p0 / 10 * 10)), (3, .int ((p0 / 10) - (p0 / 10) / 10 * 10)), (2, .int (p0 / 100)), (0, .ref hw), (1, .int p0)] := by
          rw [nI_succ, e7]; exact lv_sub hl [0, 6, 7, 8, 9, 10, 11, 12, 13, 14, 15, 16] rfl
        exact ih1 ls hl9
  intro ls hl
  refine lv_iload hx hb dX3_weighRow_56 (lv_at hl 0 rfl) ?_
  refine lv_bipush (v := 10) hx hb dX3_weighRow_58 (by decide) ?_
  refine lv_icmp_ge (tgt := 245) hx hb dX3_weighRow_60 (by decide) (fun c22 => ?_) (fun c22 => absurd (nI_le (Nat.le_refl _) (by decide)) c22)
  refine lv_aload_n hx hb dX3_weighRow_245 rfl (lv_at hl 10 rfl) ?_
  refine lv_iload_n hx hb dX3_weighRow_246 rfl (lv_at hl 11 rfl) ?_
  refine lv_iload hx hb dX3_weighRow_247 (lv_at hl 3 rfl) ?_
  refine lv_iconst (v := 0) hx hb dX3_weighRow_249 (by decide) ?_
  refine lv_iload_n hx hb dX3_weighRow_250 rfl (lv_at hl 8 rfl) ?_
  refine lv_iload hx hb dX3_weighRow_251 (lv_at hl 7 rfl) ?_
  refine rcSi (As := [.int 0, .int ((p0 / 10) - (p0 / 10) / 10 * 10), .int (p0 - p0 / 10 * 10)]) (rest := [.int (fX3_weighRow_L56 ow p0 0 0 0 (10)).2.2, .int p0, .ref hw]) hSF (kX3_pair l D cI cZ cC 0 ((p0 / 10) - (p0 / 10) / 10 * 10) (p0 - p0 / 10 * 10)) (va_cwS 3 hts gX3_weighRow_X3_pair rfl rfl rfl (by decide +kernel) ⟨Nat.le_of_ble_eq_true rfl, Nat.le_of_ble_eq_true rfl⟩) (hP.sub [] rfl) hK hN rfl rfl hl.1 (Nat.le_of_ble_eq_true rfl) dX3_weighRow_253 ⟨Nat.zero_le _, Nat.zero_le _⟩ ?_
  refine wcVv (b := hw) (As := [.int p0, .int (fX3_weighRow_L56 ow p0 0 0 0 (10)).2.2, .int (fX3_pair 0 ((p0 / 10) - (p0 / 10) / 10 * 10) (p0 - p0 / 10 * 10))]) (rest := []) (wr := []) (ws' := wX3 cI hw aw (fX3_keep ow p0 ((fX3_weighRow_L56 ow p0 0 0 0 (10)).2.2) (fX3_pair 0 ((p0 / 10) - (p0 / 10) / 10 * 10) (p0 - p0 / 10 * 10)))) hSF (kX3_keep l D cI cZ cC hw aw ow p0 ((fX3_weighRow_L56 ow p0 0 0 0 (10)).2.2) (fX3_pair 0 ((p0 / 10) - (p0 / 10) / 10 * 10) (p0 - p0 / 10 * 10)) (by obtain ⟨k9, hk9, rfl⟩ := hr9; exact kp_0 hk9) (by obtain ⟨k9, hk9, rfl⟩ := hr9; exact kp_a hk9)) (cwV 3 hts gX3_weighRow_X3_keep rfl rfl rfl (by decide +kernel) ⟨Nat.le_of_ble_eq_true rfl, Nat.le_of_ble_eq_true rfl⟩) (va_recv hK hP (ci := 3) (q0 := 0) rfl rfl) hP hD hS hA hK hN [0, 1, 2, 3, 4] [] [0, 1, 2, 3, 4] rfl (by decide) rfl (by decide) (by decide) rfl (by decide) rfl rfl hl.1 (Nat.le_of_ble_eq_true rfl) dX3_weighRow_256 ⟨Nat.zero_le _, Nat.zero_le _⟩ (fun H locs hP hD hS => ?_)
  refine lv_aload_n hx hb dX3_weighRow_259 rfl (lv_at hl 10 rfl) ?_
  refine lv_sipush (v := 1000) hx hb dX3_weighRow_260 (by decide) ?_
  refine lv_iload_n hx hb dX3_weighRow_263 rfl (lv_at hl 11 rfl) ?_
  refine lv_iadd hx hb dX3_weighRow_264 ?_
  refine lv_iload hx hb dX3_weighRow_265 (lv_at hl 2 rfl) ?_
  refine lv_iconst (v := 1) hx hb dX3_weighRow_267 (by decide) ?_
  refine lv_iload_n hx hb dX3_weighRow_268 rfl (lv_at hl 9 rfl) ?_
  refine lv_iload hx hb dX3_weighRow_269 (lv_at hl 7 rfl) ?_
  refine rcSi (As := [.int 1, .int (p0 / 100), .int (p0 - p0 / 10 * 10)]) (rest := [.int (fX3_weighRow_L56 ow p0 0 0 0 (10)).2.1, .int (1000 + p0), .ref hw]) hSF (kX3_pair l D cI cZ cC 1 (p0 / 100) (p0 - p0 / 10 * 10)) (va_cwS 3 hts gX3_weighRow_X3_pair rfl rfl rfl (by decide +kernel) ⟨Nat.le_of_ble_eq_true rfl, Nat.le_of_ble_eq_true rfl⟩) (hP.sub [] rfl) hK hN rfl rfl hl.1 (Nat.le_of_ble_eq_true rfl) dX3_weighRow_271 ⟨Nat.zero_le _, Nat.zero_le _⟩ ?_
  refine wcVv (b := hw) (As := [.int (1000 + p0), .int (fX3_weighRow_L56 ow p0 0 0 0 (10)).2.1, .int (fX3_pair 1 (p0 / 100) (p0 - p0 / 10 * 10))]) (rest := []) (wr := []) (ws' := wX3 cI hw aw (fX3_keep (fX3_keep ow p0 ((fX3_weighRow_L56 ow p0 0 0 0 (10)).2.2) (fX3_pair 0 ((p0 / 10) - (p0 / 10) / 10 * 10) (p0 - p0 / 10 * 10))) (1000 + p0) ((fX3_weighRow_L56 ow p0 0 0 0 (10)).2.1) (fX3_pair 1 (p0 / 100) (p0 - p0 / 10 * 10)))) hSF (kX3_keep l D cI cZ cC hw aw (fX3_keep ow p0 ((fX3_weighRow_L56 ow p0 0 0 0 (10)).2.2) (fX3_pair 0 ((p0 / 10) - (p0 / 10) / 10 * 10) (p0 - p0 / 10 * 10))) (1000 + p0) ((fX3_weighRow_L56 ow p0 0 0 0 (10)).2.1) (fX3_pair 1 (p0 / 100) (p0 - p0 / 10 * 10)) (by obtain ⟨k9, hk9, rfl⟩ := hr9; exact kp_1 hk9) (by obtain ⟨k9, hk9, rfl⟩ := hr9; exact kp_b hk9)) (cwV 3 hts gX3_weighRow_X3_keep rfl rfl rfl (by decide +kernel) ⟨Nat.le_of_ble_eq_true rfl, Nat.le_of_ble_eq_true rfl⟩) (va_recv hK hP (ci := 3) (q0 := 0) rfl rfl) hP hD hS hA hK hN [0, 1, 2, 3, 4] [] [0, 1, 2, 3, 4] rfl (by decide) rfl (by decide) (by decide) rfl (by decide) rfl rfl hl.1 (Nat.le_of_ble_eq_true rfl) dX3_weighRow_274 ⟨Nat.zero_le _, Nat.zero_le _⟩ (fun H locs hP hD hS => ?_)
  refine lv_aload_n hx hb dX3_weighRow_277 rfl (lv_at hl 10 rfl) ?_
  refine lv_sipush (v := 2000) hx hb dX3_weighRow_278 (by decide) ?_
  refine lv_iload_n hx hb dX3_weighRow_281 rfl (lv_at hl 11 rfl) ?_
  refine lv_iadd hx hb dX3_weighRow_282 ?_
  refine lv_iload hx hb dX3_weighRow_283 (lv_at hl 1 rfl) ?_
  refine lv_iconst (v := 2) hx hb dX3_weighRow_285 (by decide) ?_
  refine lv_iload_n hx hb dX3_weighRow_286 rfl (lv_at hl 9 rfl) ?_
  refine lv_iload_n hx hb dX3_weighRow_287 rfl (lv_at hl 8 rfl) ?_
  refine rcSi (As := [.int 2, .int (p0 / 100), .int ((p0 / 10) - (p0 / 10) / 10 * 10)]) (rest := [.int (fX3_weighRow_L56 ow p0 0 0 0 (10)).1, .int (2000 + p0), .ref hw]) hSF (kX3_pair l D cI cZ cC 2 (p0 / 100) ((p0 / 10) - (p0 / 10) / 10 * 10)) (va_cwS 3 hts gX3_weighRow_X3_pair rfl rfl rfl (by decide +kernel) ⟨Nat.le_of_ble_eq_true rfl, Nat.le_of_ble_eq_true rfl⟩) (hP.sub [] rfl) hK hN rfl rfl hl.1 (Nat.le_of_ble_eq_true rfl) dX3_weighRow_288 ⟨Nat.zero_le _, Nat.zero_le _⟩ ?_
  refine wcVv (b := hw) (As := [.int (2000 + p0), .int (fX3_weighRow_L56 ow p0 0 0 0 (10)).1, .int (fX3_pair 2 (p0 / 100) ((p0 / 10) - (p0 / 10) / 10 * 10))]) (rest := []) (wr := []) (ws' := wX3 cI hw aw (fX3_keep (fX3_keep (fX3_keep ow p0 ((fX3_weighRow_L56 ow p0 0 0 0 (10)).2.2) (fX3_pair 0 ((p0 / 10) - (p0 / 10) / 10 * 10) (p0 - p0 / 10 * 10))) (1000 + p0) ((fX3_weighRow_L56 ow p0 0 0 0 (10)).2.1) (fX3_pair 1 (p0 / 100) (p0 - p0 / 10 * 10))) (2000 + p0) ((fX3_weighRow_L56 ow p0 0 0 0 (10)).1) (fX3_pair 2 (p0 / 100) ((p0 / 10) - (p0 / 10) / 10 * 10)))) hSF (kX3_keep l D cI cZ cC hw aw (fX3_keep (fX3_keep ow p0 ((fX3_weighRow_L56 ow p0 0 0 0 (10)).2.2) (fX3_pair 0 ((p0 / 10) - (p0 / 10) / 10 * 10) (p0 - p0 / 10 * 10))) (1000 + p0) ((fX3_weighRow_L56 ow p0 0 0 0 (10)).2.1) (fX3_pair 1 (p0 / 100) (p0 - p0 / 10 * 10))) (2000 + p0) ((fX3_weighRow_L56 ow p0 0 0 0 (10)).1) (fX3_pair 2 (p0 / 100) ((p0 / 10) - (p0 / 10) / 10 * 10)) (by obtain ⟨k9, hk9, rfl⟩ := hr9; exact kp_2 hk9) (by obtain ⟨k9, hk9, rfl⟩ := hr9; exact kp_c hk9)) (cwV 3 hts gX3_weighRow_X3_keep rfl rfl rfl (by decide +kernel) ⟨Nat.le_of_ble_eq_true rfl, Nat.le_of_ble_eq_true rfl⟩) (va_recv hK hP (ci := 3) (q0 := 0) rfl rfl) hP hD hS hA hK hN [0, 1, 2, 3, 4] [] [0, 1, 2, 3, 4] rfl (by decide) rfl (by decide) (by decide) rfl (by decide) rfl rfl hl.1 (Nat.le_of_ble_eq_true rfl) dX3_weighRow_291 ⟨Nat.zero_le _, Nat.zero_le _⟩ (fun H locs hP hD hS => ?_)
  have e9 : fX3_weighRow ow p0 = (fX3_keep (fX3_keep (fX3_keep ow p0 ((fX3_weighRow_L56 ow p0 0 0 0 (10)).2.2) (fX3_pair 0 ((p0 / 10) - (p0 / 10) / 10 * 10) (p0 - p0 / 10 * 10))) (1000 + p0) ((fX3_weighRow_L56 ow p0 0 0 0 (10)).2.1) (fX3_pair 1 (p0 / 100) (p0 - p0 / 10 * 10))) (2000 + p0) ((fX3_weighRow_L56 ow p0 0 0 0 (10)).1) (fX3_pair 2 (p0 / 100) ((p0 / 10) - (p0 / 10) / 10 * 10))) := by
    rfl
  exact W.vret hx hb hr (fun t ht hW => ⟨⟨(fX3_keep (fX3_keep (fX3_keep ow p0 ((fX3_weighRow_L56 ow p0 0 0 0 (10)).2.2) (fX3_pair 0 ((p0 / 10) - (p0 / 10) / 10 * 10) (p0 - p0 / 10 * 10))) (1000 + p0) ((fX3_weighRow_L56 ow p0 0 0 0 (10)).2.1) (fX3_pair 1 (p0 / 100) (p0 - p0 / 10 * 10))) (2000 + p0) ((fX3_weighRow_L56 ow p0 0 0 0 (10)).1) (fX3_pair 2 (p0 / 100) ((p0 / 10) - (p0 / 10) / 10 * 10))), rfl, e9.symm, ⟨by rw [ht]; exact hP, hD⟩⟩, hS.F ht⟩) hS.2.2 dX3_weighRow_294

set_option maxHeartbeats 4000000 in
set_option maxRecDepth 100000 in
theorem kX3_isRest (l : Launch) (D : va_G) (cI cZ cC : ClassId) (hw : Nat) (aw : Nat → Nat) (ow : OV) (p0 : Int32) (hr9 : ∃ k9 : Nat, k9 < 1000 ∧ p0 = nI k9) : Met l yX3_isRest wsX3_isRest ({ frames := 1, cells := 0, slots := 0, locals := 22 }) (pR D (tyv cI cZ cC) (wX3 cI hw aw ow) [.ref hw, .int p0]) (vp_Si (fun r => r = fX3_isRest ow p0)) 0 0 (fun _ => False) := by
  refine Met.ofW (cc := cX3_isRest) (maxL := 5) (ret := (some .boolean)) (by decide) rfl ?_
  intro p e s m args below meth c s₁ B hml hv
  obtain ⟨rfl, hP, hK, hN⟩ := hv
  have hx := B.exec
  have hb := B.bytes
  have hr := B.returns
  have hts := atoms_spec (ws := wsX3_isRest) B.pre
  have hown : s.vm.findClass RX3 = some m.cls := findClass_of_methodNamed B.named
  have hlocks := B.notSynchronized
  have hP : va_P D vwCl (wX3 cI hw aw ow) s.heap := hP
  have hl := lv_entry ([.ref hw, .int p0]) (n := 5) (Nat.le_of_ble_eq_true rfl)
  rw [lg_entry_eq]
  generalize (lg_sl ([.ref hw, .int p0]) ++ List.replicate (5 - (lg_sl ([.ref hw, .int p0])).length) Slot.unset).toArray = ls at hl ⊢
  have hl : lv_has ls 5 [(0, .ref hw), (1, .int p0)] := hl
  have hSF : CallFix p m c cX3_isRest 5 s _ wsX3_isRest RX3 := ⟨hx, hb, hml, hown, hts⟩
  have hi3 : ∀ w ∈ wsX30, w ∈ wsX3_isRest := by decide +kernel
  have hf18 : (Cond.fieldLink RX3 18 "UmbrellaVote$Resting" "shares" "[I").before _ s = true := hts _ (by decide +kernel)
  have hf21 : (Cond.fieldLink RX3 21 "UmbrellaVote$Resting" "greatest" "[I").before _ s = true := hts _ (by decide +kernel)
  refine lv_iload_n hx hb dX3_isRest_0 rfl (lv_at hl 1 rfl) ?_
  refine lv_bipush (v := 100) hx hb dX3_isRest_1 (by decide) ?_
  refine lv_idiv hx hb dX3_isRest_3 (by decide) ?_
  refine lv_istore_n (lv' := [(2, .int (p0 / 100)), (0, .ref hw), (1, .int p0)]) hx hb dX3_isRest_4 rfl hl (by decide) rfl (fun ls hl => ?_)
  refine lv_iload_n hx hb dX3_isRest_5 rfl (lv_at hl 2 rfl) ?_
  refine lv_bipush (v := 10) hx hb dX3_isRest_6 (by decide) ?_
  refine lv_idiv hx hb dX3_isRest_8 (by decide) ?_
  refine lv_bipush (v := 10) hx hb dX3_isRest_9 (by decide) ?_
  refine lv_irem hx hb dX3_isRest_11 (by decide) ?_
  refine lv_istore_n (lv' := [(3, .int ((p0 / 10) - (p0 / 10) / 10 * 10)), (2, .int (p0 / 100)), (0, .ref hw), (1, .int p0)]) hx hb dX3_isRest_12 rfl hl (by decide) rfl (fun ls hl => ?_)
  refine lv_iload_n hx hb dX3_isRest_13 rfl (lv_at hl 3 rfl) ?_
  refine lv_bipush (v := 10) hx hb dX3_isRest_14 (by decide) ?_
  refine lv_irem hx hb dX3_isRest_16 (by decide) ?_
  refine lv_istore (lv' := [(4, .int (p0 - p0 / 10 * 10)), (3, .int ((p0 / 10) - (p0 / 10) / 10 * 10)), (2, .int (p0 / 100)), (0, .ref hw), (1, .int p0)]) hx hb dX3_isRest_17 hl (by decide) rfl (fun ls hl => ?_)
  refine lv_aload_n hx hb dX3_isRest_19 rfl (lv_at hl 3 rfl) ?_
  refine va_get (D := D) (ci := 3) (v := .ref (aw 3)) (C := RX3) (T := TX3) (N := 5) hx hb hts hi3 hown hK hP 0 rfl rfl 3 (by decide) hf18 (fun _ h9 => h9) rfl dX3_isRest_20 ?_
  refine lv_iload_n hx hb dX3_isRest_23 rfl (lv_at hl 4 rfl) ?_
  refine va_iald (f := (ow.2 3)) hx hb hK hP 3 0 rfl rfl (by obtain ⟨k9, hk9, rfl⟩ := hr9; exact kp_0 hk9) dX3_isRest_24 ?_
  refine lv_aload_n hx hb dX3_isRest_25 rfl (lv_at hl 3 rfl) ?_
  refine va_get (D := D) (ci := 3) (v := .ref (aw 4)) (C := RX3) (T := TX3) (N := 5) hx hb hts hi3 hown hK hP 0 rfl rfl 4 (by decide) hf21 (fun _ h9 => h9) rfl dX3_isRest_26 ?_
  refine lv_iconst (v := 0) hx hb dX3_isRest_29 (by decide) ?_
  refine lv_iload_n hx hb dX3_isRest_30 rfl (lv_at hl 1 rfl) ?_
  refine lv_iload hx hb dX3_isRest_31 (lv_at hl 0 rfl) ?_
  refine rcSi (As := [.int 0, .int ((p0 / 10) - (p0 / 10) / 10 * 10), .int (p0 - p0 / 10 * 10)]) (rest := [.ref (aw 4), .int ((ow.2 3) p0.toNatClampNeg)]) hSF (kX3_pair l D cI cZ cC 0 ((p0 / 10) - (p0 / 10) / 10 * 10) (p0 - p0 / 10 * 10)) (va_cwS 3 hts gX3_isRest_X3_pair rfl rfl rfl (by decide +kernel) ⟨Nat.le_of_ble_eq_true rfl, Nat.le_of_ble_eq_true rfl⟩) (hP.sub [] rfl) hK hN rfl rfl hl.1 (Nat.le_of_ble_eq_true rfl) dX3_isRest_33 ⟨Nat.zero_le _, Nat.zero_le _⟩ ?_
  refine va_iald (f := (ow.2 4)) hx hb hK hP 4 0 rfl rfl (by obtain ⟨k9, hk9, rfl⟩ := hr9; exact kp_a hk9) dX3_isRest_36 ?_
  refine W_itei (P := ((ow.2 3) p0.toNatClampNeg) = ((ow.2 4) (fX3_pair 0 ((p0 / 10) - (p0 / 10) / 10 * 10) (p0 - p0 / 10 * 10)).toNatClampNeg)) (a := (if ((ow.2 3) (1000 + p0).toNatClampNeg) = ((ow.2 4) (fX3_pair 1 (p0 / 100) (p0 - p0 / 10 * 10)).toNatClampNeg) then (if ((ow.2 3) (2000 + p0).toNatClampNeg) = ((ow.2 4) (fX3_pair 2 (p0 / 100) ((p0 / 10) - (p0 / 10) / 10 * 10)).toNatClampNeg) then (1 : Int32) else 0) else 0)) (b := 0) (J := 94) (ls9 := ls) (rest9 := []) (fun ja2 jb2 => ?_) ?_
  · refine lv_icmp_ne (tgt := 93) hx hb dX3_isRest_37 (by decide) (fun c1 => ?_) (fun c1 => ?_)
    · skip
      refine lv_iconst (v := 0) hx hb dX3_isRest_93 (by decide) ?_
      exact jb2 c1
    · skip
      refine lv_aload_n hx hb dX3_isRest_40 rfl (lv_at hl 3 rfl) ?_
      refine va_get (D := D) (ci := 3) (v := .ref (aw 3)) (C := RX3) (T := TX3) (N := 5) hx hb hts hi3 hown hK hP 0 rfl rfl 3 (by decide) hf18 (fun _ h9 => h9) rfl dX3_isRest_41 ?_
      refine lv_sipush (v := 1000) hx hb dX3_isRest_44 (by decide) ?_
      refine lv_iload_n hx hb dX3_isRest_47 rfl (lv_at hl 4 rfl) ?_
      refine lv_iadd hx hb dX3_isRest_48 ?_
      refine va_iald (f := (ow.2 3)) hx hb hK hP 3 0 rfl rfl (by obtain ⟨k9, hk9, rfl⟩ := hr9; exact kp_1 hk9) dX3_isRest_49 ?_
      refine lv_aload_n hx hb dX3_isRest_50 rfl (lv_at hl 3 rfl) ?_
      refine va_get (D := D) (ci := 3) (v := .ref (aw 4)) (C := RX3) (T := TX3) (N := 5) hx hb hts hi3 hown hK hP 0 rfl rfl 4 (by decide) hf21 (fun _ h9 => h9) rfl dX3_isRest_51 ?_
      refine lv_iconst (v := 1) hx hb dX3_isRest_54 (by decide) ?_
      refine lv_iload_n hx hb dX3_isRest_55 rfl (lv_at hl 2 rfl) ?_
      refine lv_iload hx hb dX3_isRest_56 (lv_at hl 0 rfl) ?_
      refine rcSi (As := [.int 1, .int (p0 / 100), .int (p0 - p0 / 10 * 10)]) (rest := [.ref (aw 4), .int ((ow.2 3) (1000 + p0).toNatClampNeg)]) hSF (kX3_pair l D cI cZ cC 1 (p0 / 100) (p0 - p0 / 10 * 10)) (va_cwS 3 hts gX3_isRest_X3_pair rfl rfl rfl (by decide +kernel) ⟨Nat.le_of_ble_eq_true rfl, Nat.le_of_ble_eq_true rfl⟩) (hP.sub [] rfl) hK hN rfl rfl hl.1 (Nat.le_of_ble_eq_true rfl) dX3_isRest_58 ⟨Nat.zero_le _, Nat.zero_le _⟩ ?_
      refine va_iald (f := (ow.2 4)) hx hb hK hP 4 0 rfl rfl (by obtain ⟨k9, hk9, rfl⟩ := hr9; exact kp_b hk9) dX3_isRest_61 ?_
      refine W_itei (P := ((ow.2 3) (1000 + p0).toNatClampNeg) = ((ow.2 4) (fX3_pair 1 (p0 / 100) (p0 - p0 / 10 * 10)).toNatClampNeg)) (a := (if ((ow.2 3) (2000 + p0).toNatClampNeg) = ((ow.2 4) (fX3_pair 2 (p0 / 100) ((p0 / 10) - (p0 / 10) / 10 * 10)).toNatClampNeg) then (1 : Int32) else 0)) (b := 0) (J := 94) (ls9 := ls) (rest9 := []) (fun ja4 jb4 => ?_) ?_
      · refine lv_icmp_ne (tgt := 93) hx hb dX3_isRest_62 (by decide) (fun c3 => ?_) (fun c3 => ?_)
        · skip
          refine lv_iconst (v := 0) hx hb dX3_isRest_93 (by decide) ?_
          exact jb4 c3
        · skip
          refine lv_aload_n hx hb dX3_isRest_65 rfl (lv_at hl 3 rfl) ?_
          refine va_get (D := D) (ci := 3) (v := .ref (aw 3)) (C := RX3) (T := TX3) (N := 5) hx hb hts hi3 hown hK hP 0 rfl rfl 3 (by decide) hf18 (fun _ h9 => h9) rfl dX3_isRest_66 ?_
          refine lv_sipush (v := 2000) hx hb dX3_isRest_69 (by decide) ?_
          refine lv_iload_n hx hb dX3_isRest_72 rfl (lv_at hl 4 rfl) ?_
          refine lv_iadd hx hb dX3_isRest_73 ?_
          refine va_iald (f := (ow.2 3)) hx hb hK hP 3 0 rfl rfl (by obtain ⟨k9, hk9, rfl⟩ := hr9; exact kp_2 hk9) dX3_isRest_74 ?_
          refine lv_aload_n hx hb dX3_isRest_75 rfl (lv_at hl 3 rfl) ?_
          refine va_get (D := D) (ci := 3) (v := .ref (aw 4)) (C := RX3) (T := TX3) (N := 5) hx hb hts hi3 hown hK hP 0 rfl rfl 4 (by decide) hf21 (fun _ h9 => h9) rfl dX3_isRest_76 ?_
          refine lv_iconst (v := 2) hx hb dX3_isRest_79 (by decide) ?_
          refine lv_iload_n hx hb dX3_isRest_80 rfl (lv_at hl 2 rfl) ?_
          refine lv_iload_n hx hb dX3_isRest_81 rfl (lv_at hl 1 rfl) ?_
          refine rcSi (As := [.int 2, .int (p0 / 100), .int ((p0 / 10) - (p0 / 10) / 10 * 10)]) (rest := [.ref (aw 4), .int ((ow.2 3) (2000 + p0).toNatClampNeg)]) hSF (kX3_pair l D cI cZ cC 2 (p0 / 100) ((p0 / 10) - (p0 / 10) / 10 * 10)) (va_cwS 3 hts gX3_isRest_X3_pair rfl rfl rfl (by decide +kernel) ⟨Nat.le_of_ble_eq_true rfl, Nat.le_of_ble_eq_true rfl⟩) (hP.sub [] rfl) hK hN rfl rfl hl.1 (Nat.le_of_ble_eq_true rfl) dX3_isRest_82 ⟨Nat.zero_le _, Nat.zero_le _⟩ ?_
          refine va_iald (f := (ow.2 4)) hx hb hK hP 4 0 rfl rfl (by obtain ⟨k9, hk9, rfl⟩ := hr9; exact kp_c hk9) dX3_isRest_85 ?_
          refine W_itei (P := ((ow.2 3) (2000 + p0).toNatClampNeg) = ((ow.2 4) (fX3_pair 2 (p0 / 100) ((p0 / 10) - (p0 / 10) / 10 * 10)).toNatClampNeg)) (a := 1) (b := 0) (J := 94) (ls9 := ls) (rest9 := []) (fun ja6 jb6 => ?_) ?_
          · refine lv_icmp_ne (tgt := 93) hx hb dX3_isRest_86 (by decide) (fun c5 => ?_) (fun c5 => ?_)
            · skip
              refine lv_iconst (v := 0) hx hb dX3_isRest_93 (by decide) ?_
              exact jb6 c5
            · skip
              refine lv_iconst (v := 1) hx hb dX3_isRest_89 (by decide) ?_
              refine lv_goto (tgt := 94) hx hb dX3_isRest_90 (by decide) ?_
              exact ja6 c5
          exact ja4 c3
      exact ja2 c1
  have e9 : fX3_isRest ow p0 = (if ((ow.2 3) p0.toNatClampNeg) = ((ow.2 4) (fX3_pair 0 ((p0 / 10) - (p0 / 10) / 10 * 10) (p0 - p0 / 10 * 10)).toNatClampNeg) then (if ((ow.2 3) (1000 + p0).toNatClampNeg) = ((ow.2 4) (fX3_pair 1 (p0 / 100) (p0 - p0 / 10 * 10)).toNatClampNeg) then (if ((ow.2 3) (2000 + p0).toNatClampNeg) = ((ow.2 4) (fX3_pair 2 (p0 / 100) ((p0 / 10) - (p0 / 10) / 10 * 10)).toNatClampNeg) then (1 : Int32) else 0) else 0) else 0) := by
    rfl
  exact W.zret hx hb hr (nar_z (if_z (if_z (if_z (Or.inr rfl) (Or.inl rfl)) (Or.inl rfl)) (Or.inl rfl))) (fun t ht hW => ⟨_, rfl, e9.symm, ht⟩) (fun _ h9 => absurd h9 List.not_mem_nil) dX3_isRest_94

set_option maxHeartbeats 4000000 in
set_option maxRecDepth 100000 in
theorem kX3_weigh (l : Launch) (D : va_G) (cI cZ cC : ClassId) (hw : Nat) (aw : Nat → Nat) (ow : OV) (hc : Nat) (ac : Nat → Nat) (oc : OV)   {sz : Nat} : Met l yX3_weigh wsX3_weigh ({ frames := 4, cells := 0, slots := 0, locals := 93 }) (pW D (tyv cI cZ cC) (wX3 cI hw aw ow ++ wX0 cI hc ac oc) sz [.ref hw, .ref hc]) (va_Qv (fun (u : OV) => u = fX3_weigh ow oc) (qW D (fun (u : OV) => wX3 cI hw aw u ++ wX0 cI hc ac oc) (va_A (wX3 cI hw aw ow ++ wX0 cI hc ac oc) sz)) (va_A (wX3 cI hw aw ow ++ wX0 cI hc ac oc) sz)) 0 0 (va_A (wX3 cI hw aw ow ++ wX0 cI hc ac oc) sz) := by
  refine Met.ofW (cc := cX3_weigh) (maxL := 3) (ret := none) (by decide) rfl ?_
  intro p e s m args below meth c s₁ B hml hv
  obtain ⟨rfl, hsz, hP, hK, hN, hD0⟩ := hv
  have hx := B.exec
  have hb := B.bytes
  have hr := B.returns
  have hts := atoms_spec (ws := wsX3_weigh) B.pre
  have hown : s.vm.findClass RX3 = some m.cls := findClass_of_methodNamed B.named
  have hlocks := B.notSynchronized
  subst hsz
  have hD := hD0.self (sz := s.heap.size)
  generalize hAe : va_A (wX3 cI hw aw ow ++ wX0 cI hc ac oc) s.heap.size = A at hD ⊢
  have hA : ∀ q : Nat, s.heap.size ≤ q → A q := fun q h => by rw [← hAe]; exact Or.inr h
  have hS : va_S A s.heap s.heap [] := va_S.rf
  have hP : va_P D vwCl (wX3 cI hw aw ow ++ wX0 cI hc ac oc) s.heap := hP
  have hl := lv_entry ([.ref hw, .ref hc]) (n := 3) (Nat.le_of_ble_eq_true rfl)
  rw [lg_entry_eq]
  generalize (lg_sl ([.ref hw, .ref hc]) ++ List.replicate (3 - (lg_sl ([.ref hw, .ref hc])).length) Slot.unset).toArray = ls at hl ⊢
  have hl : lv_has ls 3 [(0, .ref hw), (1, .ref hc)] := hl
  have hSF : CallFix p m c cX3_weigh 3 s _ wsX3_weigh RX3 := ⟨hx, hb, hml, hown, hts⟩
  have hi0 : ∀ w ∈ wsX00, w ∈ wsX3_weigh := by decide +kernel
  have hf24 : (Cond.fieldLink RX3 24 "UmbrellaVote$City" "weights" "[I").before _ s = true := hts _ (by decide +kernel)
  have hi3 : ∀ w ∈ wsX30, w ∈ wsX3_weigh := by decide +kernel
  have hf9 : (Cond.fieldLink RX3 9 "UmbrellaVote$Resting" "weights" "[I").before _ s = true := hts _ (by decide +kernel)
  have hf21 : (Cond.fieldLink RX3 21 "UmbrellaVote$Resting" "greatest" "[I").before _ s = true := hts _ (by decide +kernel)
  have hf43 : (Cond.fieldLink RX3 43 "UmbrellaVote$Resting" "rows" "I").before _ s = true := hts _ (by decide +kernel)
  refine lv_aload_n hx hb dX3_weigh_0 rfl (lv_at hl 1 rfl) ?_
  refine va_get (D := D) (ci := 0) (v := .ref (ac 9)) (C := RX0) (T := TX0) (N := 12) hx hb hts hi0 hown hK hP 5 rfl rfl 9 (by decide) hf24 (fun _ h9 => h9) rfl dX3_weigh_1 ?_
  refine lv_iconst (v := 0) hx hb dX3_weigh_4 (by decide) ?_
  refine lv_aload_n hx hb dX3_weigh_5 rfl (lv_at hl 0 rfl) ?_
  refine va_get (D := D) (ci := 3) (v := .ref (aw 1)) (C := RX3) (T := TX3) (N := 5) hx hb hts hi3 hown hK hP 0 rfl rfl 1 (by decide) hf9 (fun _ h9 => h9) rfl dX3_weigh_6 ?_
  refine lv_iconst (v := 0) hx hb dX3_weigh_9 (by decide) ?_
  refine lv_bipush (v := 10) hx hb dX3_weigh_10 (by decide) ?_
  refine va_copyi (f := (oc.2 9)) (g := (ow.2 1)) hx hb (by rw [hml]; exact hl.1.symm) hown (hts (.methodLink RX3 27 arraycopyName) (by decide +kernel)) (hts (.native arraycopyName) (by decide +kernel)) (hts (.static arraycopyName) (by decide +kernel)) (hts (.initialized "java/lang/System") (by decide +kernel)) hK hP hD hS 8 1 0 0 rfl rfl rfl rfl rfl (by decide) (by decide) (by decide) (by decide) (by decide) (fun _ _ => rfl) (Nat.le_of_ble_eq_true rfl) (by decide) dX3_weigh_12 (fun H locs hP hD hS => ?_)
  have hP : va_P D vwCl (wX3 cI hw aw (ub ow 1 (va_cpy (oc.2 9) (ow.2 1) (0 : Int32).toNatClampNeg (0 : Int32).toNatClampNeg (10 : Int32).toNatClampNeg)) ++ wX0 cI hc ac oc) H := hP
  have hD : va_D A (wX3 cI hw aw (ub ow 1 (va_cpy (oc.2 9) (ow.2 1) (0 : Int32).toNatClampNeg (0 : Int32).toNatClampNeg (10 : Int32).toNatClampNeg)) ++ wX0 cI hc ac oc) := hD
  refine lv_aload_n hx hb dX3_weigh_15 rfl (lv_at hl 0 rfl) ?_
  refine va_get (D := D) (ci := 3) (v := .ref (aw 4)) (C := RX3) (T := TX3) (N := 5) hx hb hts hi3 hown hK hP 0 rfl rfl 4 (by decide) hf21 (fun _ h9 => h9) rfl dX3_weigh_16 ?_
  refine lv_iconst (v := 0) hx hb dX3_weigh_19 (by decide) ?_
  refine wcSv (As := [.ref (aw 4), .int 0]) (rest := []) (wr := [(hw, .inr (3, [.int ((ub ow 1 (va_cpy (oc.2 9) (ow.2 1) (0 : Int32).toNatClampNeg (0 : Int32).toNatClampNeg (10 : Int32).toNatClampNeg)).1 0), .ref (aw 1), .ref (aw 2), .ref (aw 3), .ref (aw 4)])), (aw 1, .inl (cI, 10, .inl ((ub ow 1 (va_cpy (oc.2 9) (ow.2 1) (0 : Int32).toNatClampNeg (0 : Int32).toNatClampNeg (10 : Int32).toNatClampNeg)).2 1))), (aw 2, .inl (cI, 300, .inl ((ub ow 1 (va_cpy (oc.2 9) (ow.2 1) (0 : Int32).toNatClampNeg (0 : Int32).toNatClampNeg (10 : Int32).toNatClampNeg)).2 2))), (aw 3, .inl (cI, 3000, .inl ((ub ow 1 (va_cpy (oc.2 9) (ow.2 1) (0 : Int32).toNatClampNeg (0 : Int32).toNatClampNeg (10 : Int32).toNatClampNeg)).2 3))), (hc, .inr (0, [.int (oc.1 0), .int (oc.1 1), .int (oc.1 2), .int (oc.1 3), .int (oc.1 4), .int (oc.1 5), .int (oc.1 6), .ref (ac 7), .ref (ac 8), .ref (ac 9), .ref (ac 10), .ref (ac 11)])), (ac 7, .inl (cI, 6, .inl (oc.2 7))), (ac 8, .inl (cI, 6, .inl (oc.2 8))), (ac 9, .inl (cI, 10, .inl (oc.2 9))), (ac 10, .inl (cI, 6, .inl (oc.2 10))), (ac 11, .inl (cI, 6, .inl (oc.2 11)))]) (ws' := wX3 cI hw aw (ub (ub ow 1 (va_cpy (oc.2 9) (ow.2 1) (0 : Int32).toNatClampNeg (0 : Int32).toNatClampNeg (10 : Int32).toNatClampNeg)) 4 (fJ7_fill_53178 300 (ow.2 4) 0)) ++ wX0 cI hc ac oc) hSF (kJ7_fill_53178 l D cI cZ cC (aw 4) 300 (ow.2 4) 0 (by decide)) (va_cwS 2 hts gX3_weigh_J7_fill_53178 rfl rfl rfl (by decide +kernel) ⟨Nat.le_of_ble_eq_true rfl, Nat.le_of_ble_eq_true rfl⟩) hP hD hS hA hK hN [4] [0, 1, 2, 3, 5, 6, 7, 8, 9, 10] [0, 1, 2, 3, 10, 4, 5, 6, 7, 8, 9] rfl (by decide) rfl (by decide) (by decide) rfl (by decide) rfl rfl hl.1 (Nat.le_of_ble_eq_true rfl) dX3_weigh_20 ⟨Nat.zero_le _, Nat.zero_le _⟩ (fun H locs hP hD hS => ?_)
  refine lv_aload_n hx hb dX3_weigh_23 rfl (lv_at hl 0 rfl) ?_
  refine lv_aload_n hx hb dX3_weigh_24 rfl (lv_at hl 1 rfl) ?_
  refine wcVv (b := hw) (As := [.ref hc]) (rest := []) (wr := []) (ws' := wX3 cI hw aw (fX3_fillSlots (ub (ub ow 1 (va_cpy (oc.2 9) (ow.2 1) (0 : Int32).toNatClampNeg (0 : Int32).toNatClampNeg (10 : Int32).toNatClampNeg)) 4 (fJ7_fill_53178 300 (ow.2 4) 0)) oc) ++ wX0 cI hc ac oc) hSF (kX3_fillSlots l D cI cZ cC hw aw (ub (ub ow 1 (va_cpy (oc.2 9) (ow.2 1) (0 : Int32).toNatClampNeg (0 : Int32).toNatClampNeg (10 : Int32).toNatClampNeg)) 4 (fJ7_fill_53178 300 (ow.2 4) 0)) hc ac oc) (cwV 1 hts gX3_weigh_X3_fillSlots rfl rfl rfl (by decide +kernel) ⟨Nat.le_of_ble_eq_true rfl, Nat.le_of_ble_eq_true rfl⟩) (va_recv hK hP (ci := 3) (q0 := 0) rfl rfl) hP hD hS hA hK hN [0, 1, 2, 3, 4, 5, 6, 7, 8, 9, 10] [] [0, 1, 2, 3, 4, 5, 6, 7, 8, 9, 10] rfl (by decide) rfl (by decide) (by decide) rfl (by decide) rfl rfl hl.1 (Nat.le_of_ble_eq_true rfl) dX3_weigh_25 ⟨Nat.zero_le _, Nat.zero_le _⟩ (fun H locs hP hD hS => ?_)
  refine lv_iconst (v := 0) hx hb dX3_weigh_28 (by decide) ?_
  refine lv_istore_n (lv' := [(2, .int 0), (0, .ref hw), (1, .ref hc)]) hx hb dX3_weigh_29 rfl hl (by decide) rfl (fun ls hl => ?_)
  refine W_ltW (σ := OV) (1000) (fun r9 k9 x9 H9 locs9 ls9 => va_P D vwCl (wX3 cI hw aw x9 ++ wX0 cI hc ac oc) H9 ∧ va_D A (wX3 cI hw aw x9 ++ wX0 cI hc ac oc) ∧ va_S A s.heap H9 locs9 ∧ lv_has ls9 3 [(2, .int (nI k9)), (0, .ref hw), (1, .ref hc)] ∧ fX3_weigh_L30 r9 k9 x9 = fX3_weigh_L30 (1000) 0 (fX3_fillSlots (ub (ub ow 1 (va_cpy (oc.2 9) (ow.2 1) (0 : Int32).toNatClampNeg (0 : Int32).toNatClampNeg (10 : Int32).toNatClampNeg)) 4 (fJ7_fill_53178 300 (ow.2 4) 0)) oc)) (fX3_fillSlots (ub (ub ow 1 (va_cpy (oc.2 9) (ow.2 1) (0 : Int32).toNatClampNeg (0 : Int32).toNatClampNeg (10 : Int32).toNatClampNeg)) 4 (fJ7_fill_53178 300 (ow.2 4) 0)) oc) ⟨hP, hD, hS, lv_sub hl [0, 1, 2] rfl, rfl⟩ ?_ ?_
  · intro r1 k1 y1 H locs ls hr1 hI9 ih1
    obtain ⟨hP, hD, hS, hl, hG1⟩ := hI9
    obtain ⟨ow1, en1⟩ : ∃ z, z = y1 := ⟨_, rfl⟩
    subst en1
    have hP : va_P D vwCl (wX3 cI hw aw ow1 ++ wX0 cI hc ac oc) H := hP
    have hD : va_D A (wX3 cI hw aw ow1 ++ wX0 cI hc ac oc) := hD
    have hG1 : fX3_weigh_L30 (r1 + 1) k1 ow1 = fX3_weigh_L30 (1000) 0 (fX3_fillSlots (ub (ub ow 1 (va_cpy (oc.2 9) (ow.2 1) (0 : Int32).toNatClampNeg (0 : Int32).toNatClampNeg (10 : Int32).toNatClampNeg)) 4 (fJ7_fill_53178 300 (ow.2 4) 0)) oc) := hG1
    have hl : lv_has ls 3 [(2, .int (nI k1)), (0, .ref hw), (1, .ref hc)] := hl
    have hk1 : k1 < 1000 := by omega
    refine lv_iload_n hx hb dX3_weigh_30 rfl (lv_at hl 0 rfl) ?_
    refine lv_aload_n hx hb dX3_weigh_31 rfl (lv_at hl 1 rfl) ?_
    refine va_get (D := D) (ci := 3) (v := .int (ow1.1 0)) (C := RX3) (T := TX3) (N := 5) hx hb hts hi3 hown hK hP 0 rfl rfl 0 (by decide) hf43 (fun _ h9 => h9) rfl dX3_weigh_32 ?_
    refine lv_icmp_ge (tgt := 56) hx hb dX3_weigh_35 (by decide) (fun c2 => ?_) (fun c2 => ?_)
    · skip
      have e9 : fX3_weigh ow oc = ow1 := by
        refine Eq.trans (b := fX3_weigh_L30 (1000) 0 (fX3_fillSlots (ub (ub ow 1 (va_cpy (oc.2 9) (ow.2 1) (0 : Int32).toNatClampNeg (0 : Int32).toNatClampNeg (10 : Int32).toNatClampNeg)) 4 (fJ7_fill_53178 300 (ow.2 4) 0)) oc)) ?_ ?_
        · rfl
        · rw [← hG1]; simp only [fX3_weigh_L30, if_pos c2]
      exact W.vret hx hb hr (fun t ht hW => ⟨⟨ow1, rfl, e9.symm, ⟨by rw [ht]; exact hP, hD⟩⟩, hS.F ht⟩) hS.2.2 dX3_weigh_56
    · skip
      refine lv_iload_n hx hb dX3_weigh_38 rfl (lv_at hl 0 rfl) ?_
      refine lv_sipush (v := 1000) hx hb dX3_weigh_39 (by decide) ?_
      refine lv_icmp_ge (tgt := 56) hx hb dX3_weigh_42 (by decide) (fun c3 => absurd c3 (nI_ge hk1 (by decide))) (fun c3 => ?_)
      refine lv_aload_n hx hb dX3_weigh_45 rfl (lv_at hl 1 rfl) ?_
      refine lv_iload_n hx hb dX3_weigh_46 rfl (lv_at hl 0 rfl) ?_
      refine wcVv (b := hw) (As := [.int (nI k1)]) (rest := []) (wr := [(hc, .inr (0, [.int (oc.1 0), .int (oc.1 1), .int (oc.1 2), .int (oc.1 3), .int (oc.1 4), .int (oc.1 5), .int (oc.1 6), .ref (ac 7), .ref (ac 8), .ref (ac 9), .ref (ac 10), .ref (ac 11)])), (ac 7, .inl (cI, 6, .inl (oc.2 7))), (ac 8, .inl (cI, 6, .inl (oc.2 8))), (ac 9, .inl (cI, 10, .inl (oc.2 9))), (ac 10, .inl (cI, 6, .inl (oc.2 10))), (ac 11, .inl (cI, 6, .inl (oc.2 11)))]) (ws' := wX3 cI hw aw (fX3_weighRow ow1 (nI k1)) ++ wX0 cI hc ac oc) hSF (kX3_weighRow l D cI cZ cC hw aw ow1 (nI k1) ⟨k1, hk1, rfl⟩) (cwV 1 hts gX3_weigh_X3_weighRow rfl rfl rfl (by decide +kernel) ⟨Nat.le_of_ble_eq_true rfl, Nat.le_of_ble_eq_true rfl⟩) (va_recv hK hP (ci := 3) (q0 := 0) rfl rfl) hP hD hS hA hK hN [0, 1, 2, 3, 4] [5, 6, 7, 8, 9, 10] [6, 7, 8, 9, 10, 0, 1, 2, 3, 4, 5] rfl (by decide) rfl (by decide) (by decide) rfl (by decide) rfl rfl hl.1 (Nat.le_of_ble_eq_true rfl) dX3_weigh_47 ⟨Nat.zero_le _, Nat.zero_le _⟩ (fun H locs hP hD hS => ?_)
      refine lv_iinc (v := ((nI k1) + 1)) (lv' := [(2, .int ((nI k1) + 1)), (0, .ref hw), (1, .ref hc)]) hx hb dX3_weigh_50 hl (k := 0) rfl rfl (by decide) rfl (fun ls hl => ?_)
      refine lv_goto (tgt := 30) hx hb dX3_weigh_53 (by decide) ?_
      have hl9 : lv_has ls 3 [(2, .int (nI (k1 + 1))), (0, .ref hw), (1, .ref hc)] := by
        rw [nI_succ]; exact lv_sub hl [0, 1, 2] rfl
      have e8 : fX3_weigh_L30 r1 (k1 + 1) (fX3_weighRow ow1 (nI k1)) = fX3_weigh_L30 (1000) 0 (fX3_fillSlots (ub (ub ow 1 (va_cpy (oc.2 9) (ow.2 1) (0 : Int32).toNatClampNeg (0 : Int32).toNatClampNeg (10 : Int32).toNatClampNeg)) 4 (fJ7_fill_53178 300 (ow.2 4) 0)) oc) := by
        rw [← hG1]
        simp only [fX3_weigh_L30, if_neg c2]
      exact ih1 (fX3_weighRow ow1 (nI k1)) H locs ls ⟨hP, hD, hS, hl9, e8⟩
  intro k1 y1 H locs ls hB1 hI9
  obtain ⟨hP, hD, hS, hl, hG1⟩ := hI9
  obtain ⟨ow1, en1⟩ : ∃ z, z = y1 := ⟨_, rfl⟩
  subst en1
  have hP : va_P D vwCl (wX3 cI hw aw ow1 ++ wX0 cI hc ac oc) H := hP
  have hD : va_D A (wX3 cI hw aw ow1 ++ wX0 cI hc ac oc) := hD
  have hG1 : fX3_weigh_L30 0 k1 ow1 = fX3_weigh_L30 (1000) 0 (fX3_fillSlots (ub (ub ow 1 (va_cpy (oc.2 9) (ow.2 1) (0 : Int32).toNatClampNeg (0 : Int32).toNatClampNeg (10 : Int32).toNatClampNeg)) 4 (fJ7_fill_53178 300 (ow.2 4) 0)) oc) := hG1
  have hl : lv_has ls 3 [(2, .int (nI k1)), (0, .ref hw), (1, .ref hc)] := hl
  refine lv_iload_n hx hb dX3_weigh_30 rfl (lv_at hl 0 rfl) ?_
  refine lv_aload_n hx hb dX3_weigh_31 rfl (lv_at hl 1 rfl) ?_
  refine va_get (D := D) (ci := 3) (v := .int (ow1.1 0)) (C := RX3) (T := TX3) (N := 5) hx hb hts hi3 hown hK hP 0 rfl rfl 0 (by decide) hf43 (fun _ h9 => h9) rfl dX3_weigh_32 ?_
  refine lv_icmp_ge (tgt := 56) hx hb dX3_weigh_35 (by decide) (fun c4 => ?_) (fun c4 => ?_)
  · skip
    have e9 : fX3_weigh ow oc = ow1 := by
      refine Eq.trans (b := fX3_weigh_L30 (1000) 0 (fX3_fillSlots (ub (ub ow 1 (va_cpy (oc.2 9) (ow.2 1) (0 : Int32).toNatClampNeg (0 : Int32).toNatClampNeg (10 : Int32).toNatClampNeg)) 4 (fJ7_fill_53178 300 (ow.2 4) 0)) oc)) ?_ ?_
      · rfl
      · rw [← hG1]; simp only [fX3_weigh_L30, if_pos c4]
    exact W.vret hx hb hr (fun t ht hW => ⟨⟨ow1, rfl, e9.symm, ⟨by rw [ht]; exact hP, hD⟩⟩, hS.F ht⟩) hS.2.2 dX3_weigh_56
  · skip
    refine lv_iload_n hx hb dX3_weigh_38 rfl (lv_at hl 0 rfl) ?_
    refine lv_sipush (v := 1000) hx hb dX3_weigh_39 (by decide) ?_
    refine lv_icmp_ge (tgt := 56) hx hb dX3_weigh_42 (by decide) (fun c5 => ?_) (fun c5 => absurd (by rw [hB1]; exact nI_le (Nat.le_refl _) (by decide)) c5)
    have e9 : fX3_weigh ow oc = ow1 := by
      refine Eq.trans (b := fX3_weigh_L30 (1000) 0 (fX3_fillSlots (ub (ub ow 1 (va_cpy (oc.2 9) (ow.2 1) (0 : Int32).toNatClampNeg (0 : Int32).toNatClampNeg (10 : Int32).toNatClampNeg)) 4 (fJ7_fill_53178 300 (ow.2 4) 0)) oc)) ?_ ?_
      · rfl
      · rw [← hG1]; simp only [fX3_weigh_L30, if_neg c4]
    exact W.vret hx hb hr (fun t ht hW => ⟨⟨ow1, rfl, e9.symm, ⟨by rw [ht]; exact hP, hD⟩⟩, hS.F ht⟩) hS.2.2 dX3_weigh_56

set_option maxHeartbeats 4000000 in
set_option maxRecDepth 100000 in
theorem kX3_howMany (l : Launch) (D : va_G) (cI cZ cC : ClassId) (hw : Nat) (aw : Nat → Nat) (ow : OV)   : Met l yX3_howMany wsX3_howMany ({ frames := 2, cells := 0, slots := 0, locals := 46 }) (pR D (tyv cI cZ cC) (wX3 cI hw aw ow) [.ref hw]) (vp_Si (fun r => r = fX3_howMany ow)) 0 0 (fun _ => False) := by
  refine Met.ofW (cc := cX3_howMany) (maxL := 3) (ret := (some .int)) (by decide) rfl ?_
  intro p e s m args below meth c s₁ B hml hv
  obtain ⟨rfl, hP, hK, hN⟩ := hv
  have hx := B.exec
  have hb := B.bytes
  have hr := B.returns
  have hts := atoms_spec (ws := wsX3_howMany) B.pre
  have hown : s.vm.findClass RX3 = some m.cls := findClass_of_methodNamed B.named
  have hlocks := B.notSynchronized
  have hP : va_P D vwCl (wX3 cI hw aw ow) s.heap := hP
  have hl := lv_entry ([.ref hw]) (n := 3) (Nat.le_of_ble_eq_true rfl)
  rw [lg_entry_eq]
  generalize (lg_sl ([.ref hw]) ++ List.replicate (3 - (lg_sl ([.ref hw])).length) Slot.unset).toArray = ls at hl ⊢
  have hl : lv_has ls 3 [(0, .ref hw)] := hl
  have hSF : CallFix p m c cX3_howMany 3 s _ wsX3_howMany RX3 := ⟨hx, hb, hml, hown, hts⟩
  have hi3 : ∀ w ∈ wsX30, w ∈ wsX3_howMany := by decide +kernel
  have hf43 : (Cond.fieldLink RX3 43 "UmbrellaVote$Resting" "rows" "I").before _ s = true := hts _ (by decide +kernel)
  refine lv_iconst (v := 0) hx hb dX3_howMany_0 (by decide) ?_
  refine lv_istore_n (lv' := [(1, .int 0), (0, .ref hw)]) hx hb dX3_howMany_1 rfl hl (by decide) rfl (fun ls hl => ?_)
  refine lv_iconst (v := 0) hx hb dX3_howMany_2 (by decide) ?_
  refine lv_istore_n (lv' := [(2, .int 0), (1, .int 0), (0, .ref hw)]) hx hb dX3_howMany_3 rfl hl (by decide) rfl (fun ls hl => ?_)
  refine W_ltR (σ := Int32) (1000) (fun r9 k9 x9 ls9 => lv_has ls9 3 [(2, .int (nI k9)), (1, .int x9), (0, .ref hw)] ∧ fX3_howMany_L4 ow r9 k9 x9 = fX3_howMany_L4 ow (1000) 0 0) 0 ⟨lv_sub hl [0, 1, 2] rfl, rfl⟩ ?_ ?_
  · intro r1 k1 y1 ls hr1 hI9 ih1
    obtain ⟨hl, hG1⟩ := hI9
    obtain ⟨x1_1, en1⟩ : ∃ z, z = y1 := ⟨_, rfl⟩
    subst en1
    have hG1 : fX3_howMany_L4 ow (r1 + 1) k1 x1_1 = fX3_howMany_L4 ow (1000) 0 0 := hG1
    have hl : lv_has ls 3 [(2, .int (nI k1)), (1, .int x1_1), (0, .ref hw)] := hl
    have hk1 : k1 < 1000 := by omega
    refine lv_iload_n hx hb dX3_howMany_4 rfl (lv_at hl 0 rfl) ?_
    refine lv_aload_n hx hb dX3_howMany_5 rfl (lv_at hl 2 rfl) ?_
    refine va_get (D := D) (ci := 3) (v := .int (ow.1 0)) (C := RX3) (T := TX3) (N := 5) hx hb hts hi3 hown hK hP 0 rfl rfl 0 (by decide) hf43 (fun _ h9 => h9) rfl dX3_howMany_6 ?_
    refine lv_icmp_ge (tgt := 41) hx hb dX3_howMany_9 (by decide) (fun c2 => ?_) (fun c2 => ?_)
    · skip
      refine lv_iload_n hx hb dX3_howMany_41 rfl (lv_at hl 1 rfl) ?_
      have e9 : fX3_howMany ow = x1_1 := by
        refine Eq.trans (b := fX3_howMany_L4 ow (1000) 0 0) ?_ ?_
        · rfl
        · rw [← hG1]; simp only [fX3_howMany_L4, if_pos c2]
      exact W.iret hx hb hr (fun t ht hW => ⟨_, rfl, e9.symm, ht⟩) (fun _ h9 => absurd h9 List.not_mem_nil) dX3_howMany_42
    · skip
      refine lv_iload_n hx hb dX3_howMany_12 rfl (lv_at hl 0 rfl) ?_
      refine lv_sipush (v := 1000) hx hb dX3_howMany_13 (by decide) ?_
      refine lv_icmp_ge (tgt := 41) hx hb dX3_howMany_16 (by decide) (fun c3 => absurd c3 (nI_ge hk1 (by decide))) (fun c3 => ?_)
      refine lv_iload_n hx hb dX3_howMany_19 rfl (lv_at hl 1 rfl) ?_
      refine lv_aload_n hx hb dX3_howMany_20 rfl (lv_at hl 2 rfl) ?_
      refine lv_iload_n hx hb dX3_howMany_21 rfl (lv_at hl 0 rfl) ?_
      refine rcVi (b := hw) (As := [.int (nI k1)]) (rest := [.int x1_1]) hSF (kX3_isRest l D cI cZ cC hw aw ow (nI k1) ⟨k1, hk1, rfl⟩) (cwV 1 hts gX3_howMany_X3_isRest rfl rfl rfl (by decide +kernel) ⟨Nat.le_of_ble_eq_true rfl, Nat.le_of_ble_eq_true rfl⟩) (va_recv hK hP (ci := 3) (q0 := 0) rfl rfl) (hP.sub [0, 1, 2, 3, 4] rfl) hK hN rfl rfl hl.1 (Nat.le_of_ble_eq_true rfl) dX3_howMany_22 ⟨Nat.zero_le _, Nat.zero_le _⟩ ?_
      refine W_itei (P := (fX3_isRest ow (nI k1)) = 0) (a := 0) (b := 1) (J := 33) (ls9 := ls) (rest9 := [.int x1_1]) (fun ja5 jb5 => ?_) ?_
      · refine lv_if_eq (tgt := 32) hx hb dX3_howMany_25 (by decide) (fun c4 => ?_) (fun c4 => ?_)
        · skip
          refine lv_iconst (v := 0) hx hb dX3_howMany_32 (by decide) ?_
          exact ja5 c4
        · skip
          refine lv_iconst (v := 1) hx hb dX3_howMany_28 (by decide) ?_
          refine lv_goto (tgt := 33) hx hb dX3_howMany_29 (by decide) ?_
          exact jb5 c4
      refine lv_iadd hx hb dX3_howMany_33 ?_
      refine lv_istore_n (lv' := [(1, .int (x1_1 + (if (fX3_isRest ow (nI k1)) = 0 then (0 : Int32) else 1))), (2, .int (nI k1)), (0, .ref hw)]) hx hb dX3_howMany_34 rfl hl (by decide) rfl (fun ls hl => ?_)
      refine lv_iinc (v := ((nI k1) + 1)) (lv' := [(2, .int ((nI k1) + 1)), (1, .int (x1_1 + (if (fX3_isRest ow (nI k1)) = 0 then (0 : Int32) else 1))), (0, .ref hw)]) hx hb dX3_howMany_35 hl (k := 1) rfl rfl (by decide) rfl (fun ls hl => ?_)
      refine lv_goto (tgt := 4) hx hb dX3_howMany_38 (by decide) ?_
      have hl9 : lv_has ls 3 [(2, .int (nI (k1 + 1))), (1, .int (x1_1 + (if (fX3_isRest ow (nI k1)) = 0 then (0 : Int32) else 1))), (0, .ref hw)] := by
        rw [nI_succ]; exact lv_sub hl [0, 1, 2] rfl
      have e8 : fX3_howMany_L4 ow r1 (k1 + 1) (x1_1 + (if (fX3_isRest ow (nI k1)) = 0 then (0 : Int32) else 1)) = fX3_howMany_L4 ow (1000) 0 0 := by
        rw [← hG1]
        simp only [fX3_howMany_L4, if_neg c2]
      exact ih1 (x1_1 + (if (fX3_isRest ow (nI k1)) = 0 then (0 : Int32) else 1)) ls ⟨hl9, e8⟩
  intro k1 y1 ls hB1 hI9
  obtain ⟨hl, hG1⟩ := hI9
  obtain ⟨x1_1, en1⟩ : ∃ z, z = y1 := ⟨_, rfl⟩
  subst en1
  have hG1 : fX3_howMany_L4 ow 0 k1 x1_1 = fX3_howMany_L4 ow (1000) 0 0 := hG1
  have hl : lv_has ls 3 [(2, .int (nI k1)), (1, .int x1_1), (0, .ref hw)] := hl
  refine lv_iload_n hx hb dX3_howMany_4 rfl (lv_at hl 0 rfl) ?_
  refine lv_aload_n hx hb dX3_howMany_5 rfl (lv_at hl 2 rfl) ?_
  refine va_get (D := D) (ci := 3) (v := .int (ow.1 0)) (C := RX3) (T := TX3) (N := 5) hx hb hts hi3 hown hK hP 0 rfl rfl 0 (by decide) hf43 (fun _ h9 => h9) rfl dX3_howMany_6 ?_
  refine lv_icmp_ge (tgt := 41) hx hb dX3_howMany_9 (by decide) (fun c6 => ?_) (fun c6 => ?_)
  · skip
    refine lv_iload_n hx hb dX3_howMany_41 rfl (lv_at hl 1 rfl) ?_
    have e9 : fX3_howMany ow = x1_1 := by
      refine Eq.trans (b := fX3_howMany_L4 ow (1000) 0 0) ?_ ?_
      · rfl
      · rw [← hG1]; simp only [fX3_howMany_L4, if_pos c6]
    exact W.iret hx hb hr (fun t ht hW => ⟨_, rfl, e9.symm, ht⟩) (fun _ h9 => absurd h9 List.not_mem_nil) dX3_howMany_42
  · skip
    refine lv_iload_n hx hb dX3_howMany_12 rfl (lv_at hl 0 rfl) ?_
    refine lv_sipush (v := 1000) hx hb dX3_howMany_13 (by decide) ?_
    refine lv_icmp_ge (tgt := 41) hx hb dX3_howMany_16 (by decide) (fun c7 => ?_) (fun c7 => absurd (by rw [hB1]; exact nI_le (Nat.le_refl _) (by decide)) c7)
    refine lv_iload_n hx hb dX3_howMany_41 rfl (lv_at hl 1 rfl) ?_
    have e9 : fX3_howMany ow = x1_1 := by
      refine Eq.trans (b := fX3_howMany_L4 ow (1000) 0 0) ?_ ?_
      · rfl
      · rw [← hG1]; simp only [fX3_howMany_L4, if_neg c6]
    exact W.iret hx hb hr (fun t ht hW => ⟨_, rfl, e9.symm, ht⟩) (fun _ h9 => absurd h9 List.not_mem_nil) dX3_howMany_42

set_option maxHeartbeats 4000000 in
set_option maxRecDepth 100000 in
theorem kX3_row (l : Launch) (D : va_G) (cI cZ cC : ClassId) (hw : Nat) (aw : Nat → Nat) (ow : OV) (p0 : Int32)  : Met l yX3_row wsX3_row ({ frames := 2, cells := 0, slots := 0, locals := 46 }) (pR D (tyv cI cZ cC) (wX3 cI hw aw ow) [.ref hw, .int p0]) (vp_Si (fun r => r = fX3_row ow p0)) 0 0 (fun _ => False) := by
  refine Met.ofW (cc := cX3_row) (maxL := 4) (ret := (some .int)) (by decide) rfl ?_
  intro p e s m args below meth c s₁ B hml hv
  obtain ⟨rfl, hP, hK, hN⟩ := hv
  have hx := B.exec
  have hb := B.bytes
  have hr := B.returns
  have hts := atoms_spec (ws := wsX3_row) B.pre
  have hown : s.vm.findClass RX3 = some m.cls := findClass_of_methodNamed B.named
  have hlocks := B.notSynchronized
  have hP : va_P D vwCl (wX3 cI hw aw ow) s.heap := hP
  have hl := lv_entry ([.ref hw, .int p0]) (n := 4) (Nat.le_of_ble_eq_true rfl)
  rw [lg_entry_eq]
  generalize (lg_sl ([.ref hw, .int p0]) ++ List.replicate (4 - (lg_sl ([.ref hw, .int p0])).length) Slot.unset).toArray = ls at hl ⊢
  have hl : lv_has ls 4 [(0, .ref hw), (1, .int p0)] := hl
  have hSF : CallFix p m c cX3_row 4 s _ wsX3_row RX3 := ⟨hx, hb, hml, hown, hts⟩
  have hi3 : ∀ w ∈ wsX30, w ∈ wsX3_row := by decide +kernel
  have hf43 : (Cond.fieldLink RX3 43 "UmbrellaVote$Resting" "rows" "I").before _ s = true := hts _ (by decide +kernel)
  refine lv_iconst (v := 0) hx hb dX3_row_0 (by decide) ?_
  refine lv_istore_n (lv' := [(2, .int 0), (0, .ref hw), (1, .int p0)]) hx hb dX3_row_1 rfl hl (by decide) rfl (fun ls hl => ?_)
  refine lv_iconst (v := 0) hx hb dX3_row_2 (by decide) ?_
  refine lv_istore_n (lv' := [(3, .int 0), (2, .int 0), (0, .ref hw), (1, .int p0)]) hx hb dX3_row_3 rfl hl (by decide) rfl (fun ls hl => ?_)
  refine W_ltR (σ := Int32) (1000) (fun r9 k9 x9 ls9 => lv_has ls9 4 [(3, .int (nI k9)), (2, .int x9), (0, .ref hw), (1, .int p0)] ∧ fX3_row_L4 ow p0 r9 k9 x9 = fX3_row_L4 ow p0 (1000) 0 0) 0 ⟨lv_sub hl [0, 1, 2, 3] rfl, rfl⟩ ?_ ?_
  · intro r1 k1 y1 ls hr1 hI9 ih1
    obtain ⟨hl, hG1⟩ := hI9
    obtain ⟨x2_1, en1⟩ : ∃ z, z = y1 := ⟨_, rfl⟩
    subst en1
    have hG1 : fX3_row_L4 ow p0 (r1 + 1) k1 x2_1 = fX3_row_L4 ow p0 (1000) 0 0 := hG1
    have hl : lv_has ls 4 [(3, .int (nI k1)), (2, .int x2_1), (0, .ref hw), (1, .int p0)] := hl
    have hk1 : k1 < 1000 := by omega
    refine lv_iload_n hx hb dX3_row_4 rfl (lv_at hl 0 rfl) ?_
    refine lv_aload_n hx hb dX3_row_5 rfl (lv_at hl 2 rfl) ?_
    refine va_get (D := D) (ci := 3) (v := .int (ow.1 0)) (C := RX3) (T := TX3) (N := 5) hx hb hts hi3 hown hK hP 0 rfl rfl 0 (by decide) hf43 (fun _ h9 => h9) rfl dX3_row_6 ?_
    refine lv_icmp_ge (tgt := 43) hx hb dX3_row_9 (by decide) (fun c2 => ?_) (fun c2 => ?_)
    · skip
      refine lv_bipush (v := (-6)) hx hb dX3_row_43 (by decide) ?_
      have e9 : fX3_row ow p0 = (-6) := by
        refine Eq.trans (b := fX3_row_L4 ow p0 (1000) 0 0) ?_ ?_
        · rfl
        · rw [← hG1]; simp only [fX3_row_L4, if_pos c2]
      exact W.iret hx hb hr (fun t ht hW => ⟨_, rfl, e9.symm, ht⟩) (fun _ h9 => absurd h9 List.not_mem_nil) dX3_row_45
    · skip
      refine lv_iload_n hx hb dX3_row_12 rfl (lv_at hl 0 rfl) ?_
      refine lv_sipush (v := 1000) hx hb dX3_row_13 (by decide) ?_
      refine lv_icmp_ge (tgt := 43) hx hb dX3_row_16 (by decide) (fun c3 => absurd c3 (nI_ge hk1 (by decide))) (fun c3 => ?_)
      refine lv_aload_n hx hb dX3_row_19 rfl (lv_at hl 2 rfl) ?_
      refine lv_iload_n hx hb dX3_row_20 rfl (lv_at hl 0 rfl) ?_
      refine rcVi (b := hw) (As := [.int (nI k1)]) (rest := []) hSF (kX3_isRest l D cI cZ cC hw aw ow (nI k1) ⟨k1, hk1, rfl⟩) (cwV 1 hts gX3_row_X3_isRest rfl rfl rfl (by decide +kernel) ⟨Nat.le_of_ble_eq_true rfl, Nat.le_of_ble_eq_true rfl⟩) (va_recv hK hP (ci := 3) (q0 := 0) rfl rfl) (hP.sub [0, 1, 2, 3, 4] rfl) hK hN rfl rfl hl.1 (Nat.le_of_ble_eq_true rfl) dX3_row_21 ⟨Nat.zero_le _, Nat.zero_le _⟩ ?_
      refine lv_if_eq (tgt := 37) hx hb dX3_row_24 (by decide) (fun c4 => ?_) (fun c4 => ?_)
      · skip
        refine lv_iinc (v := ((nI k1) + 1)) (lv' := [(3, .int ((nI k1) + 1)), (2, .int x2_1), (0, .ref hw), (1, .int p0)]) hx hb dX3_row_37 hl (k := 0) rfl rfl (by decide) rfl (fun ls hl => ?_)
        refine lv_goto (tgt := 4) hx hb dX3_row_40 (by decide) ?_
        have hl9 : lv_has ls 4 [(3, .int (nI (k1 + 1))), (2, .int x2_1), (0, .ref hw), (1, .int p0)] := by
          rw [nI_succ]; exact lv_sub hl [0, 1, 2, 3] rfl
        have e8 : fX3_row_L4 ow p0 r1 (k1 + 1) x2_1 = fX3_row_L4 ow p0 (1000) 0 0 := by
          rw [← hG1]
          simp only [fX3_row_L4, if_neg c2, if_pos c4]
        exact ih1 x2_1 ls ⟨hl9, e8⟩
      · skip
        refine lv_iload_n hx hb dX3_row_27 rfl (lv_at hl 1 rfl) ?_
        refine lv_iload_n hx hb dX3_row_28 rfl (lv_at hl 3 rfl) ?_
        refine lv_icmp_ne (tgt := 34) hx hb dX3_row_29 (by decide) (fun c5 => ?_) (fun c5 => ?_)
        · skip
          refine lv_iinc (v := (x2_1 + 1)) (lv' := [(2, .int (x2_1 + 1)), (3, .int (nI k1)), (0, .ref hw), (1, .int p0)]) hx hb dX3_row_34 hl (k := 1) rfl rfl (by decide) rfl (fun ls hl => ?_)
          refine lv_iinc (v := ((nI k1) + 1)) (lv' := [(3, .int ((nI k1) + 1)), (2, .int (x2_1 + 1)), (0, .ref hw), (1, .int p0)]) hx hb dX3_row_37 hl (k := 1) rfl rfl (by decide) rfl (fun ls hl => ?_)
          refine lv_goto (tgt := 4) hx hb dX3_row_40 (by decide) ?_
          have hl9 : lv_has ls 4 [(3, .int (nI (k1 + 1))), (2, .int (x2_1 + 1)), (0, .ref hw), (1, .int p0)] := by
            rw [nI_succ]; exact lv_sub hl [0, 1, 2, 3] rfl
          have e8 : fX3_row_L4 ow p0 r1 (k1 + 1) (x2_1 + 1) = fX3_row_L4 ow p0 (1000) 0 0 := by
            rw [← hG1]
            simp only [fX3_row_L4, if_neg c2, if_neg c4, if_neg c5]
          exact ih1 (x2_1 + 1) ls ⟨hl9, e8⟩
        · skip
          refine lv_iload_n hx hb dX3_row_32 rfl (lv_at hl 0 rfl) ?_
          have e9 : fX3_row ow p0 = (nI k1) := by
            refine Eq.trans (b := fX3_row_L4 ow p0 (1000) 0 0) ?_ ?_
            · rfl
            · rw [← hG1]; simp only [fX3_row_L4, if_neg c2, if_neg c4, if_pos c5]
          exact W.iret hx hb hr (fun t ht hW => ⟨_, rfl, e9.symm, ht⟩) (fun _ h9 => absurd h9 List.not_mem_nil) dX3_row_33
  intro k1 y1 ls hB1 hI9
  obtain ⟨hl, hG1⟩ := hI9
  obtain ⟨x2_1, en1⟩ : ∃ z, z = y1 := ⟨_, rfl⟩
  subst en1
  have hG1 : fX3_row_L4 ow p0 0 k1 x2_1 = fX3_row_L4 ow p0 (1000) 0 0 := hG1
  have hl : lv_has ls 4 [(3, .int (nI k1)), (2, .int x2_1), (0, .ref hw), (1, .int p0)] := hl
  refine lv_iload_n hx hb dX3_row_4 rfl (lv_at hl 0 rfl) ?_
  refine lv_aload_n hx hb dX3_row_5 rfl (lv_at hl 2 rfl) ?_
  refine va_get (D := D) (ci := 3) (v := .int (ow.1 0)) (C := RX3) (T := TX3) (N := 5) hx hb hts hi3 hown hK hP 0 rfl rfl 0 (by decide) hf43 (fun _ h9 => h9) rfl dX3_row_6 ?_
  refine lv_icmp_ge (tgt := 43) hx hb dX3_row_9 (by decide) (fun c6 => ?_) (fun c6 => ?_)
  · skip
    refine lv_bipush (v := (-6)) hx hb dX3_row_43 (by decide) ?_
    have e9 : fX3_row ow p0 = (-6) := by
      refine Eq.trans (b := fX3_row_L4 ow p0 (1000) 0 0) ?_ ?_
      · rfl
      · rw [← hG1]; simp only [fX3_row_L4, if_pos c6]
    exact W.iret hx hb hr (fun t ht hW => ⟨_, rfl, e9.symm, ht⟩) (fun _ h9 => absurd h9 List.not_mem_nil) dX3_row_45
  · skip
    refine lv_iload_n hx hb dX3_row_12 rfl (lv_at hl 0 rfl) ?_
    refine lv_sipush (v := 1000) hx hb dX3_row_13 (by decide) ?_
    refine lv_icmp_ge (tgt := 43) hx hb dX3_row_16 (by decide) (fun c7 => ?_) (fun c7 => absurd (by rw [hB1]; exact nI_le (Nat.le_refl _) (by decide)) c7)
    refine lv_bipush (v := (-6)) hx hb dX3_row_43 (by decide) ?_
    have e9 : fX3_row ow p0 = (-6) := by
      refine Eq.trans (b := fX3_row_L4 ow p0 (1000) 0 0) ?_ ?_
      · rfl
      · rw [← hG1]; simp only [fX3_row_L4, if_neg c6]
    exact W.iret hx hb hr (fun t ht hW => ⟨_, rfl, e9.symm, ht⟩) (fun _ h9 => absurd h9 List.not_mem_nil) dX3_row_45

