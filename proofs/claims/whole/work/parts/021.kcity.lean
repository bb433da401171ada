set_option maxHeartbeats 4000000 in
set_option maxRecDepth 100000 in
theorem kX0_isThere (l : Launch) (D : va_G) (cI cZ cC : ClassId) (hc : Nat) (ac : Nat → Nat) (oc : OV) (p0 : Int32)  : Met l yX0_isThere wsX0_isThere ({ frames := 1, cells := 0, slots := 0, locals := 22 }) (pR D (tyv cI cZ cC) (wX0 cI hc ac oc) [.ref hc, .int p0]) (vp_Si (fun r => r = fX0_isThere oc p0)) 0 0 (fun _ => False) := by
  refine Met.ofW (cc := cX0_isThere) (maxL := 2) (ret := (some .boolean)) (by decide) rfl ?_
  intro p e s m args below meth c s₁ B hml hv
  obtain ⟨rfl, hP, hK, hN⟩ := hv
  have hx := B.exec
  have hb := B.bytes
  have hr := B.returns
  have hts := atoms_spec (ws := wsX0_isThere) B.pre
  have hown : s.vm.findClass RX0 = some m.cls := findClass_of_methodNamed B.named
  have hlocks := B.notSynchronized
  have hP : va_P D vwCl (wX0 cI hc ac oc) s.heap := hP
  have hl := lv_entry ([.ref hc, .int p0]) (n := 2) (Nat.le_of_ble_eq_true rfl)
  rw [lg_entry_eq]
  generalize (lg_sl ([.ref hc, .int p0]) ++ List.replicate (2 - (lg_sl ([.ref hc, .int p0])).length) Slot.unset).toArray = ls at hl ⊢
  have hl : lv_has ls 2 [(0, .ref hc), (1, .int p0)] := hl
  have hSF : CallFix p m c cX0_isThere 2 s _ wsX0_isThere RX0 := ⟨hx, hb, hml, hown, hts⟩
  have hi0 : ∀ w ∈ wsX00, w ∈ wsX0_isThere := by decide +kernel
  have hf40 : (Cond.fieldLink RX0 40 "UmbrellaVote$City" "there" "I").before _ s = true := hts _ (by decide +kernel)
  refine lv_iload_n hx hb dX0_isThere_0 rfl (lv_at hl 1 rfl) ?_
  refine lv_iconst (v := 0) hx hb dX0_isThere_1 (by decide) ?_
  refine lv_iconst (v := 5) hx hb dX0_isThere_2 (by decide) ?_
  refine rcNi (As := [.int p0, .int 0, .int 5]) (rest := []) hSF (kX4_within l D cI cZ cC p0 0 5) (va_cnB 3 hts gX0_isThere_X4_within_n61 rfl rfl rfl (hN.1 (.methodLinkNest RX0 61 yX4_within "UmbrellaVote") (by decide +kernel)) (hts (.initialized RX4) (by decide +kernel)) (by decide +kernel) ⟨Nat.le_of_ble_eq_true rfl, Nat.le_of_ble_eq_true rfl⟩) (hts (.static yX4_within) (by decide +kernel)) (hP.sub [] rfl) hK hN rfl rfl hl.1 (Nat.le_of_ble_eq_true rfl) dX0_isThere_3 ⟨Nat.zero_le _, Nat.zero_le _⟩ ?_
  refine W_itei (P := (fX4_within p0 0 5) = 0) (a := 0) (b := (if (fX4_hasBit (oc.1 2) p0) = 0 then (0 : Int32) else 1)) (J := 25) (ls9 := ls) (rest9 := []) (fun ja2 jb2 => ?_) ?_
  · refine lv_if_eq (tgt := 24) hx hb dX0_isThere_6 (by decide) (fun c1 => ?_) (fun c1 => ?_)
    · skip
      refine lv_iconst (v := 0) hx hb dX0_isThere_24 (by decide) ?_
      exact ja2 c1
    · skip
      refine lv_aload_n hx hb dX0_isThere_9 rfl (lv_at hl 0 rfl) ?_
      refine va_get (D := D) (ci := 0) (v := .int (oc.1 2)) (C := RX0) (T := TX0) (N := 12) hx hb hts hi0 hown hK hP 0 rfl rfl 2 (by decide) hf40 (fun _ h9 => h9) rfl dX0_isThere_10 ?_
      refine lv_iload_n hx hb dX0_isThere_13 rfl (lv_at hl 1 rfl) ?_
      refine rcNi (As := [.int (oc.1 2), .int p0]) (rest := []) hSF (kX4_hasBit l D cI cZ cC (oc.1 2) p0) (va_cnB 2 hts gX0_isThere_X4_hasBit_n65 rfl rfl rfl (hN.1 (.methodLinkNest RX0 65 yX4_hasBit "UmbrellaVote") (by decide +kernel)) (hts (.initialized RX4) (by decide +kernel)) (by decide +kernel) ⟨Nat.le_of_ble_eq_true rfl, Nat.le_of_ble_eq_true rfl⟩) (hts (.static yX4_hasBit) (by decide +kernel)) (hP.sub [] rfl) hK hN rfl rfl hl.1 (Nat.le_of_ble_eq_true rfl) dX0_isThere_14 ⟨Nat.zero_le _, Nat.zero_le _⟩ ?_
      refine W_itei (P := (fX4_hasBit (oc.1 2) p0) = 0) (a := 0) (b := 1) (J := 25) (ls9 := ls) (rest9 := []) (fun ja4 jb4 => ?_) ?_
      · refine lv_if_eq (tgt := 24) hx hb dX0_isThere_17 (by decide) (fun c3 => ?_) (fun c3 => ?_)
        · skip
          refine lv_iconst (v := 0) hx hb dX0_isThere_24 (by decide) ?_
          exact ja4 c3
        · skip
          refine lv_iconst (v := 1) hx hb dX0_isThere_20 (by decide) ?_
          refine lv_goto (tgt := 25) hx hb dX0_isThere_21 (by decide) ?_
          exact jb4 c3
      exact jb2 c1
  have e9 : fX0_isThere oc p0 = (if (fX4_within p0 0 5) = 0 then (0 : Int32) else (if (fX4_hasBit (oc.1 2) p0) = 0 then (0 : Int32) else 1)) := by
    rfl
  exact W.zret hx hb hr (nar_z (if_z (Or.inl rfl) (if_z (Or.inl rfl) (Or.inr rfl)))) (fun t ht hW => ⟨_, rfl, e9.symm, ht⟩) (fun _ h9 => absurd h9 List.not_mem_nil) dX0_isThere_25

set_option maxHeartbeats 4000000 in
set_option maxRecDepth 100000 in
theorem kX0_umbrellas (l : Launch) (D : va_G) (cI cZ cC : ClassId) (hc : Nat) (ac : Nat → Nat) (oc : OV)   : Met l yX0_umbrellas wsX0_umbrellas ({ frames := 0, cells := 0, slots := 0, locals := 0 }) (pR D (tyv cI cZ cC) (wX0 cI hc ac oc) [.ref hc]) (vp_Si (fun r => r = fX0_umbrellas oc)) 0 0 (fun _ => False) := by
  refine Met.ofW (cc := cX0_umbrellas) (maxL := 1) (ret := (some .int)) (by decide) rfl ?_
  intro p e s m args below meth c s₁ B hml hv
  obtain ⟨rfl, hP, hK, hN⟩ := hv
  have hx := B.exec
  have hb := B.bytes
  have hr := B.returns
  have hts := atoms_spec (ws := wsX0_umbrellas) B.pre
  have hown : s.vm.findClass RX0 = some m.cls := findClass_of_methodNamed B.named
  have hlocks := B.notSynchronized
  have hP : va_P D vwCl (wX0 cI hc ac oc) s.heap := hP
  have hl := lv_entry ([.ref hc]) (n := 1) (Nat.le_of_ble_eq_true rfl)
  rw [lg_entry_eq]
  generalize (lg_sl ([.ref hc]) ++ List.replicate (1 - (lg_sl ([.ref hc])).length) Slot.unset).toArray = ls at hl ⊢
  have hl : lv_has ls 1 [(0, .ref hc)] := hl
  have hSF : CallFix p m c cX0_umbrellas 1 s _ wsX0_umbrellas RX0 := ⟨hx, hb, hml, hown, hts⟩
  have hi0 : ∀ w ∈ wsX00, w ∈ wsX0_umbrellas := by decide +kernel
  have hf40 : (Cond.fieldLink RX0 40 "UmbrellaVote$City" "there" "I").before _ s = true := hts _ (by decide +kernel)
  have hf43 : (Cond.fieldLink RX0 43 "UmbrellaVote$City" "holes" "I").before _ s = true := hts _ (by decide +kernel)
  refine lv_aload_n hx hb dX0_umbrellas_0 rfl (lv_at hl 0 rfl) ?_
  refine va_get (D := D) (ci := 0) (v := .int (oc.1 2)) (C := RX0) (T := TX0) (N := 12) hx hb hts hi0 hown hK hP 0 rfl rfl 2 (by decide) hf40 (fun _ h9 => h9) rfl dX0_umbrellas_1 ?_
  refine lv_aload_n hx hb dX0_umbrellas_4 rfl (lv_at hl 0 rfl) ?_
  refine va_get (D := D) (ci := 0) (v := .int (oc.1 3)) (C := RX0) (T := TX0) (N := 12) hx hb hts hi0 hown hK hP 0 rfl rfl 3 (by decide) hf43 (fun _ h9 => h9) rfl dX0_umbrellas_5 ?_
  refine lv_iconst (v := (-1)) hx hb dX0_umbrellas_8 (by decide) ?_
  refine lv_ixor hx hb dX0_umbrellas_9 ?_
  refine lv_iand hx hb dX0_umbrellas_10 ?_
  have e9 : fX0_umbrellas oc = ((oc.1 2) &&& ((oc.1 3) ^^^ (-1))) := by
    rfl
  exact W.iret hx hb hr (fun t ht hW => ⟨_, rfl, e9.symm, ht⟩) (fun _ h9 => absurd h9 List.not_mem_nil) dX0_umbrellas_11

set_option maxHeartbeats 4000000 in
set_option maxRecDepth 100000 in
theorem kX0_openTimeAt (l : Launch) (D : va_G) (cI cZ cC : ClassId) (hc : Nat) (ac : Nat → Nat) (oc : OV) (p0 : Int32) (p1 : Int32) (p2 : Int32)  : Met l yX0_openTimeAt wsX0_openTimeAt ({ frames := 1, cells := 0, slots := 0, locals := 21 }) (pR D (tyv cI cZ cC) (wX0 cI hc ac oc) [.ref hc, .int p0, .int p1, .int p2]) (vp_Si (fun r => r = fX0_openTimeAt oc p0 p1 p2)) 0 0 (fun _ => False) := by
  refine Met.ofW (cc := cX0_openTimeAt) (maxL := 5) (ret := (some .int)) (by decide) rfl ?_
  intro p e s m args below meth c s₁ B hml hv
  obtain ⟨rfl, hP, hK, hN⟩ := hv
  have hx := B.exec
  have hb := B.bytes
  have hr := B.returns
  have hts := atoms_spec (ws := wsX0_openTimeAt) B.pre
  have hown : s.vm.findClass RX0 = some m.cls := findClass_of_methodNamed B.named
  have hlocks := B.notSynchronized
  have hP : va_P D vwCl (wX0 cI hc ac oc) s.heap := hP
  have hl := lv_entry ([.ref hc, .int p0, .int p1, .int p2]) (n := 5) (Nat.le_of_ble_eq_true rfl)
  rw [lg_entry_eq]
  generalize (lg_sl ([.ref hc, .int p0, .int p1, .int p2]) ++ List.replicate (5 - (lg_sl ([.ref hc, .int p0, .int p1, .int p2])).length) Slot.unset).toArray = ls at hl ⊢
  have hl : lv_has ls 5 [(0, .ref hc), (1, .int p0), (2, .int p1), (3, .int p2)] := hl
  have hSF : CallFix p m c cX0_openTimeAt 5 s _ wsX0_openTimeAt RX0 := ⟨hx, hb, hml, hown, hts⟩
  have hi0 : ∀ w ∈ wsX00, w ∈ wsX0_openTimeAt := by decide +kernel
  have hf49 : (Cond.fieldLink RX0 49 "UmbrellaVote$City" "tables" "I").before _ s = true := hts _ (by decide +kernel)
  have hf15 : (Cond.fieldLink RX0 15 "UmbrellaVote$City" "shade" "I").before _ s = true := hts _ (by decide +kernel)
  have hf9 : (Cond.fieldLink RX0 9 "UmbrellaVote$City" "spread" "I").before _ s = true := hts _ (by decide +kernel)
  refine lv_aload_n hx hb dX0_openTimeAt_0 rfl (lv_at hl 0 rfl) ?_
  refine va_get (D := D) (ci := 0) (v := .int (oc.1 5)) (C := RX0) (T := TX0) (N := 12) hx hb hts hi0 hown hK hP 0 rfl rfl 5 (by decide) hf49 (fun _ h9 => h9) rfl dX0_openTimeAt_1 ?_
  refine lv_iload_n hx hb dX0_openTimeAt_4 rfl (lv_at hl 1 rfl) ?_
  refine rcNi (As := [.int (oc.1 5), .int p0]) (rest := []) hSF (kX4_hasBit l D cI cZ cC (oc.1 5) p0) (va_cnB 2 hts gX0_openTimeAt_X4_hasBit_n65 rfl rfl rfl (hN.1 (.methodLinkNest RX0 65 yX4_hasBit "UmbrellaVote") (by decide +kernel)) (hts (.initialized RX4) (by decide +kernel)) (by decide +kernel) ⟨Nat.le_of_ble_eq_true rfl, Nat.le_of_ble_eq_true rfl⟩) (hts (.static yX4_hasBit) (by decide +kernel)) (hP.sub [] rfl) hK hN rfl rfl hl.1 (Nat.le_of_ble_eq_true rfl) dX0_openTimeAt_5 ⟨Nat.zero_le _, Nat.zero_le _⟩ ?_
  refine W_itei (P := (fX4_hasBit (oc.1 5) p0) = 0) (a := 0) (b := (oc.1 1)) (J := 19) (ls9 := ls) (rest9 := []) (fun ja2 jb2 => ?_) ?_
  · refine lv_if_eq (tgt := 18) hx hb dX0_openTimeAt_8 (by decide) (fun c1 => ?_) (fun c1 => ?_)
    · skip
      refine lv_iconst (v := 0) hx hb dX0_openTimeAt_18 (by decide) ?_
      exact ja2 c1
    · skip
      refine lv_aload_n hx hb dX0_openTimeAt_11 rfl (lv_at hl 0 rfl) ?_
      refine va_get (D := D) (ci := 0) (v := .int (oc.1 1)) (C := RX0) (T := TX0) (N := 12) hx hb hts hi0 hown hK hP 0 rfl rfl 1 (by decide) hf15 (fun _ h9 => h9) rfl dX0_openTimeAt_12 ?_
      refine lv_goto (tgt := 19) hx hb dX0_openTimeAt_15 (by decide) ?_
      exact jb2 c1
  refine lv_istore (lv' := [(4, .int (if (fX4_hasBit (oc.1 5) p0) = 0 then (0 : Int32) else (oc.1 1))), (0, .ref hc), (1, .int p0), (2, .int p1), (3, .int p2)]) hx hb dX0_openTimeAt_19 hl (by decide) rfl (fun ls hl => ?_)
  refine lv_iload_n hx hb dX0_openTimeAt_21 rfl (lv_at hl 2 rfl) ?_
  refine lv_iload_n hx hb dX0_openTimeAt_22 rfl (lv_at hl 4 rfl) ?_
  refine lv_isub hx hb dX0_openTimeAt_23 ?_
  refine va_mabs hx hb (by rw [hml]; exact hl.1.symm) hown (hts (.methodLink RX0 73 Lib.Math.abs.name) (by decide +kernel)) (hts (.static Lib.Math.abs.name) (by decide +kernel)) (hts (.initialized "java/lang/Math") (by decide +kernel)) (hts (.code Lib.Math.abs.name Lib.Math.abs.code 1 (some .int)) (by decide +kernel)) (Nat.le_of_ble_eq_true rfl) (Nat.le_of_ble_eq_true rfl) (Nat.zero_le _) (Nat.zero_le _) dX0_openTimeAt_24 ?_
  refine lv_aload_n hx hb dX0_openTimeAt_27 rfl (lv_at hl 1 rfl) ?_
  refine va_get (D := D) (ci := 0) (v := .int (oc.1 0)) (C := RX0) (T := TX0) (N := 12) hx hb hts hi0 hown hK hP 0 rfl rfl 0 (by decide) hf9 (fun _ h9 => h9) rfl dX0_openTimeAt_28 ?_
  refine lv_imul hx hb dX0_openTimeAt_31 ?_
  refine lv_iload hx hb dX0_openTimeAt_32 (lv_at hl 0 rfl) ?_
  refine lv_iadd hx hb dX0_openTimeAt_34 ?_
  refine lv_iload_n hx hb dX0_openTimeAt_35 rfl (lv_at hl 3 rfl) ?_
  refine lv_iadd hx hb dX0_openTimeAt_36 ?_
  have e9 : fX0_openTimeAt oc p0 p1 p2 = ((((if 0 ≤ (p0 - p2) then (p0 - p2) else 0 - (p0 - p2)) * (oc.1 0)) + (if (fX4_hasBit (oc.1 5) p0) = 0 then (0 : Int32) else (oc.1 1))) + p1) := by
    rfl
  exact W.iret hx hb hr (fun t ht hW => ⟨_, rfl, e9.symm, ht⟩) (fun _ h9 => absurd h9 List.not_mem_nil) dX0_openTimeAt_37

set_option maxHeartbeats 4000000 in
set_option maxRecDepth 100000 in
theorem kX0_openTime (l : Launch) (D : va_G) (cI cZ cC : ClassId) (hc : Nat) (ac : Nat → Nat) (oc : OV) (p0 : Int32) (p1 : Int32)  : Met l yX0_openTime wsX0_openTime ({ frames := 2, cells := 0, slots := 0, locals := 45 }) (pR D (tyv cI cZ cC) (wX0 cI hc ac oc) [.ref hc, .int p0, .int p1]) (vp_Si (fun r => r = fX0_openTime oc p0 p1)) 0 0 (fun _ => False) := by
  refine Met.ofW (cc := cX0_openTime) (maxL := 3) (ret := (some .int)) (by decide) rfl ?_
  intro p e s m args below meth c s₁ B hml hv
  obtain ⟨rfl, hP, hK, hN⟩ := hv
  have hx := B.exec
  have hb := B.bytes
  have hr := B.returns
  have hts := atoms_spec (ws := wsX0_openTime) B.pre
  have hown : s.vm.findClass RX0 = some m.cls := findClass_of_methodNamed B.named
  have hlocks := B.notSynchronized
  have hP : va_P D vwCl (wX0 cI hc ac oc) s.heap := hP
  have hl := lv_entry ([.ref hc, .int p0, .int p1]) (n := 3) (Nat.le_of_ble_eq_true rfl)
  rw [lg_entry_eq]
  generalize (lg_sl ([.ref hc, .int p0, .int p1]) ++ List.replicate (3 - (lg_sl ([.ref hc, .int p0, .int p1])).length) Slot.unset).toArray = ls at hl ⊢
  have hl : lv_has ls 3 [(0, .ref hc), (1, .int p0), (2, .int p1)] := hl
  have hSF : CallFix p m c cX0_openTime 3 s _ wsX0_openTime RX0 := ⟨hx, hb, hml, hown, hts⟩
  have hi0 : ∀ w ∈ wsX00, w ∈ wsX0_openTime := by decide +kernel
  have hf18 : (Cond.fieldLink RX0 18 "UmbrellaVote$City" "places" "[I").before _ s = true := hts _ (by decide +kernel)
  have hf22 : (Cond.fieldLink RX0 22 "UmbrellaVote$City" "slows" "[I").before _ s = true := hts _ (by decide +kernel)
  refine lv_iload_n hx hb dX0_openTime_0 rfl (lv_at hl 1 rfl) ?_
  refine lv_iconst (v := 0) hx hb dX0_openTime_1 (by decide) ?_
  refine lv_iconst (v := 5) hx hb dX0_openTime_2 (by decide) ?_
  refine rcNi (As := [.int p0, .int 0, .int 5]) (rest := []) hSF (kX4_within l D cI cZ cC p0 0 5) (va_cnB 3 hts gX0_openTime_X4_within_n61 rfl rfl rfl (hN.1 (.methodLinkNest RX0 61 yX4_within "UmbrellaVote") (by decide +kernel)) (hts (.initialized RX4) (by decide +kernel)) (by decide +kernel) ⟨Nat.le_of_ble_eq_true rfl, Nat.le_of_ble_eq_true rfl⟩) (hts (.static yX4_within) (by decide +kernel)) (hP.sub [] rfl) hK hN rfl rfl hl.1 (Nat.le_of_ble_eq_true rfl) dX0_openTime_3 ⟨Nat.zero_le _, Nat.zero_le _⟩ ?_
  refine W_itei (P := (fX4_within p0 0 5) = 0) (a := (-6)) (b := (fX0_openTimeAt oc ((oc.2 7) p0.toNatClampNeg) ((oc.2 8) p0.toNatClampNeg) p1)) (J := 31) (ls9 := ls) (rest9 := []) (fun ja2 jb2 => ?_) ?_
  · refine lv_if_eq (tgt := 29) hx hb dX0_openTime_6 (by decide) (fun c1 => ?_) (fun c1 => ?_)
    · skip
      refine lv_bipush (v := (-6)) hx hb dX0_openTime_29 (by decide) ?_
      exact ja2 c1
    · skip
      refine lv_aload_n hx hb dX0_openTime_9 rfl (lv_at hl 0 rfl) ?_
      refine lv_aload_n hx hb dX0_openTime_10 rfl (lv_at hl 0 rfl) ?_
      refine va_get (D := D) (ci := 0) (v := .ref (ac 7)) (C := RX0) (T := TX0) (N := 12) hx hb hts hi0 hown hK hP 0 rfl rfl 7 (by decide) hf18 (fun _ h9 => h9) rfl dX0_openTime_11 ?_
      refine lv_iload_n hx hb dX0_openTime_14 rfl (lv_at hl 1 rfl) ?_
      refine va_iald (f := (oc.2 7)) hx hb hK hP 1 0 rfl rfl (wi6 (by with_reducible assumption)) dX0_openTime_15 ?_
      refine lv_aload_n hx hb dX0_openTime_16 rfl (lv_at hl 0 rfl) ?_
      refine va_get (D := D) (ci := 0) (v := .ref (ac 8)) (C := RX0) (T := TX0) (N := 12) hx hb hts hi0 hown hK hP 0 rfl rfl 8 (by decide) hf22 (fun _ h9 => h9) rfl dX0_openTime_17 ?_
      refine lv_iload_n hx hb dX0_openTime_20 rfl (lv_at hl 1 rfl) ?_
      refine va_iald (f := (oc.2 8)) hx hb hK hP 2 0 rfl rfl (wi6 (by with_reducible assumption)) dX0_openTime_21 ?_
      refine lv_iload_n hx hb dX0_openTime_22 rfl (lv_at hl 2 rfl) ?_
      refine rcVi (b := hc) (As := [.int ((oc.2 7) p0.toNatClampNeg), .int ((oc.2 8) p0.toNatClampNeg), .int p1]) (rest := []) hSF (kX0_openTimeAt l D cI cZ cC hc ac oc ((oc.2 7) p0.toNatClampNeg) ((oc.2 8) p0.toNatClampNeg) p1) (cwV 3 hts gX0_openTime_X0_openTimeAt rfl rfl rfl (by decide +kernel) ⟨Nat.le_of_ble_eq_true rfl, Nat.le_of_ble_eq_true rfl⟩) (va_recv hK hP (ci := 0) (q0 := 0) rfl rfl) (hP.sub [0, 1, 2, 3, 4, 5] rfl) hK hN rfl rfl hl.1 (Nat.le_of_ble_eq_true rfl) dX0_openTime_23 ⟨Nat.zero_le _, Nat.zero_le _⟩ ?_
      refine lv_goto (tgt := 31) hx hb dX0_openTime_26 (by decide) ?_
      exact jb2 c1
  have e9 : fX0_openTime oc p0 p1 = (if (fX4_within p0 0 5) = 0 then ((-6) : Int32) else (fX0_openTimeAt oc ((oc.2 7) p0.toNatClampNeg) ((oc.2 8) p0.toNatClampNeg) p1)) := by
    rfl
  exact W.iret hx hb hr (fun t ht hW => ⟨_, rfl, e9.symm, ht⟩) (fun _ h9 => absurd h9 List.not_mem_nil) dX0_openTime_31

set_option maxHeartbeats 4000000 in
set_option maxRecDepth 100000 in
theorem kX0_firstOf (l : Launch) (D : va_G) (cI cZ cC : ClassId) (hc : Nat) (ac : Nat → Nat) (oc : OV) (p0 : Int32) (p1 : Int32)  : Met l yX0_firstOf wsX0_firstOf ({ frames := 2, cells := 0, slots := 0, locals := 45 }) (pR D (tyv cI cZ cC) (wX0 cI hc ac oc) [.ref hc, .int p0, .int p1]) (vp_Si (fun r => r = fX0_firstOf oc p0 p1)) 0 0 (fun _ => False) := by
  refine Met.ofW (cc := cX0_firstOf) (maxL := 7) (ret := (some .int)) (by decide) rfl ?_
  intro p e s m args below meth c s₁ B hml hv
  obtain ⟨rfl, hP, hK, hN⟩ := hv
  have hx := B.exec
  have hb := B.bytes
  have hr := B.returns
  have hts := atoms_spec (ws := wsX0_firstOf) B.pre
  have hown : s.vm.findClass RX0 = some m.cls := findClass_of_methodNamed B.named
  have hlocks := B.notSynchronized
  have hP : va_P D vwCl (wX0 cI hc ac oc) s.heap := hP
  have hl := lv_entry ([.ref hc, .int p0, .int p1]) (n := 7) (Nat.le_of_ble_eq_true rfl)
  rw [lg_entry_eq]
  generalize (lg_sl ([.ref hc, .int p0, .int p1]) ++ List.replicate (7 - (lg_sl ([.ref hc, .int p0, .int p1])).length) Slot.unset).toArray = ls at hl ⊢
  have hl : lv_has ls 7 [(0, .ref hc), (1, .int p0), (2, .int p1)] := hl
  have hSF : CallFix p m c cX0_firstOf 7 s _ wsX0_firstOf RX0 := ⟨hx, hb, hml, hown, hts⟩
  have hi0 : ∀ w ∈ wsX00, w ∈ wsX0_firstOf := by decide +kernel
  have hf18 : (Cond.fieldLink RX0 18 "UmbrellaVote$City" "places" "[I").before _ s = true := hts _ (by decide +kernel)
  have hf22 : (Cond.fieldLink RX0 22 "UmbrellaVote$City" "slows" "[I").before _ s = true := hts _ (by decide +kernel)
  refine lv_iconst (v := 0) hx hb dX0_firstOf_0 (by decide) ?_
  refine lv_istore_n (lv' := [(3, .int 0), (0, .ref hc), (1, .int p0), (2, .int p1)]) hx hb dX0_firstOf_1 rfl hl (by decide) rfl (fun ls hl => ?_)
  refine lv_sipush (v := 1000) hx hb dX0_firstOf_2 (by decide) ?_
  refine lv_istore (lv' := [(4, .int 1000), (3, .int 0), (0, .ref hc), (1, .int p0), (2, .int p1)]) hx hb dX0_firstOf_5 hl (by decide) rfl (fun ls hl => ?_)
  refine lv_iconst (v := 0) hx hb dX0_firstOf_7 (by decide) ?_
  refine lv_istore (lv' := [(5, .int 0), (4, .int 1000), (3, .int 0), (0, .ref hc), (1, .int p0), (2, .int p1)]) hx hb dX0_firstOf_8 hl (by decide) rfl (fun ls hl => ?_)
  refine W_lpR (6) (fun k9 ls9 => lv_has ls9 7 [(5, .int (nI k9)), (4, .int (fX0_firstOf_L10 oc p0 p1 1000 0 k9).1), (3, .int (fX0_firstOf_L10 oc p0 p1 1000 0 k9).2), (0, .ref hc), (1, .int p0), (2, .int p1)]) (lv_sub hl [0, 1, 2, 3, 4, 5] rfl) ?_ ?_
  · intro k1 ls hk1 hl ih1
    generalize hs1 : fX0_firstOf_L10 oc p0 p1 1000 0 k1 = y1 at hl
    obtain ⟨x4_1, x3_1⟩ := y1
    try dsimp only at hl
    refine lv_iload hx hb dX0_firstOf_10 (lv_at hl 0 rfl) ?_
    refine lv_bipush (v := 6) hx hb dX0_firstOf_12 (by decide) ?_
    refine lv_icmp_ge (tgt := 94) hx hb dX0_firstOf_14 (by decide) (fun c2 => absurd c2 (nI_ge hk1 (by decide))) (fun c2 => ?_)
    refine lv_iload_n hx hb dX0_firstOf_17 rfl (lv_at hl 4 rfl) ?_
    refine lv_iload hx hb dX0_firstOf_18 (lv_at hl 0 rfl) ?_
    refine rcNi (As := [.int p0, .int (nI k1)]) (rest := []) hSF (kX4_hasBit l D cI cZ cC p0 (nI k1)) (va_cnB 2 hts gX0_firstOf_X4_hasBit_n65 rfl rfl rfl (hN.1 (.methodLinkNest RX0 65 yX4_hasBit "UmbrellaVote") (by decide +kernel)) (hts (.initialized RX4) (by decide +kernel)) (by decide +kernel) ⟨Nat.le_of_ble_eq_true rfl, Nat.le_of_ble_eq_true rfl⟩) (hts (.static yX4_hasBit) (by decide +kernel)) (hP.sub [] rfl) hK hN rfl rfl hl.1 (Nat.le_of_ble_eq_true rfl) dX0_firstOf_20 ⟨Nat.zero_le _, Nat.zero_le _⟩ ?_
    refine lv_if_eq (tgt := 88) hx hb dX0_firstOf_23 (by decide) (fun c3 => ?_) (fun c3 => ?_)
    · skip
      refine lv_iinc (v := ((nI k1) + 1)) (lv' := [(5, .int ((nI k1) + 1)), (4, .int x4_1), (3, .int x3_1), (0, .ref hc), (1, .int p0), (2, .int p1)]) hx hb dX0_firstOf_88 hl (k := 0) rfl rfl (by decide) rfl (fun ls hl => ?_)
      refine lv_goto (tgt := 10) hx hb dX0_firstOf_91 (by decide) ?_
      have e8 : fX0_firstOf_L10s oc p0 p1 k1 x4_1 x3_1 = (x4_1, x3_1) := by
        simp only [fX0_firstOf_L10s, if_pos c3]
      have e7 : fX0_firstOf_L10 oc p0 p1 1000 0 (k1 + 1) = (x4_1, x3_1) := by
        show fX0_firstOf_L10s oc p0 p1 k1 (fX0_firstOf_L10 oc p0 p1 1000 0 k1).1 (fX0_firstOf_L10 oc p0 p1 1000 0 k1).2 = _
        rw [hs1]; exact e8
      have hl9 : lv_has ls 7 [(5, .int (nI (k1 + 1))), (4, .int (fX0_firstOf_L10 oc p0 p1 1000 0 (k1 + 1)).1), (3, .int (fX0_firstOf_L10 oc p0 p1 1000 0 (k1 + 1)).2), (0, .ref hc), (1, .int p0), (2, .int p1)] := by
        rw [nI_succ, e7]; exact lv_sub hl [0, 1, 2, 3, 4, 5] rfl
      exact ih1 ls hl9
    · skip
      refine lv_aload_n hx hb dX0_firstOf_26 rfl (lv_at hl 3 rfl) ?_
      refine lv_aload_n hx hb dX0_firstOf_27 rfl (lv_at hl 3 rfl) ?_
      refine va_get (D := D) (ci := 0) (v := .ref (ac 7)) (C := RX0) (T := TX0) (N := 12) hx hb hts hi0 hown hK hP 0 rfl rfl 7 (by decide) hf18 (fun _ h9 => h9) rfl dX0_firstOf_28 ?_
      refine lv_iload hx hb dX0_firstOf_31 (lv_at hl 0 rfl) ?_
      refine va_iald (f := (oc.2 7)) hx hb hK hP 1 0 rfl rfl (vp_in_nI (Nat.lt_of_lt_of_le hk1 (by decide)) (by decide)) dX0_firstOf_33 ?_
      refine lv_aload_n hx hb dX0_firstOf_34 rfl (lv_at hl 3 rfl) ?_
      refine va_get (D := D) (ci := 0) (v := .ref (ac 8)) (C := RX0) (T := TX0) (N := 12) hx hb hts hi0 hown hK hP 0 rfl rfl 8 (by decide) hf22 (fun _ h9 => h9) rfl dX0_firstOf_35 ?_
      refine lv_iload hx hb dX0_firstOf_38 (lv_at hl 0 rfl) ?_
      refine va_iald (f := (oc.2 8)) hx hb hK hP 2 0 rfl rfl (vp_in_nI (Nat.lt_of_lt_of_le hk1 (by decide)) (by decide)) dX0_firstOf_40 ?_
      refine lv_iload_n hx hb dX0_firstOf_41 rfl (lv_at hl 5 rfl) ?_
      refine rcVi (b := hc) (As := [.int ((oc.2 7) (nI k1).toNatClampNeg), .int ((oc.2 8) (nI k1).toNatClampNeg), .int p1]) (rest := []) hSF (kX0_openTimeAt l D cI cZ cC hc ac oc ((oc.2 7) (nI k1).toNatClampNeg) ((oc.2 8) (nI k1).toNatClampNeg) p1) (cwV 3 hts gX0_firstOf_X0_openTimeAt rfl rfl rfl (by decide +kernel) ⟨Nat.le_of_ble_eq_true rfl, Nat.le_of_ble_eq_true rfl⟩) (va_recv hK hP (ci := 0) (q0 := 0) rfl rfl) (hP.sub [0, 1, 2, 3, 4, 5] rfl) hK hN rfl rfl hl.1 (Nat.le_of_ble_eq_true rfl) dX0_firstOf_42 ⟨Nat.zero_le _, Nat.zero_le _⟩ ?_
      refine lv_istore (lv' := [(6, .int (fX0_openTimeAt oc ((oc.2 7) (nI k1).toNatClampNeg) ((oc.2 8) (nI k1).toNatClampNeg) p1)), (5, .int (nI k1)), (4, .int x4_1), (3, .int x3_1), (0, .ref hc), (1, .int p0), (2, .int p1)]) hx hb dX0_firstOf_45 hl (by decide) rfl (fun ls hl => ?_)
      refine lv_iload hx hb dX0_firstOf_47 (lv_at hl 0 rfl) ?_
      refine lv_iload hx hb dX0_firstOf_49 (lv_at hl 2 rfl) ?_
      refine W_itei (P := x4_1 ≤ (fX0_openTimeAt oc ((oc.2 7) (nI k1).toNatClampNeg) ((oc.2 8) (nI k1).toNatClampNeg) p1)) (a := (if (fX0_openTimeAt oc ((oc.2 7) (nI k1).toNatClampNeg) ((oc.2 8) (nI k1).toNatClampNeg) p1) = x4_1 then (x3_1 ||| (1 <<< ((nI k1) &&& 31))) else x3_1)) (b := (1 <<< ((nI k1) &&& 31))) (J := 78) (ls9 := ls) (rest9 := []) (fun ja5 jb5 => ?_) ?_
      · refine lv_icmp_ge (tgt := 61) hx hb dX0_firstOf_51 (by decide) (fun c4 => ?_) (fun c4 => ?_)
        · skip
          refine lv_iload hx hb dX0_firstOf_61 (lv_at hl 0 rfl) ?_
          refine lv_iload hx hb dX0_firstOf_63 (lv_at hl 2 rfl) ?_
          refine W_itei (P := (fX0_openTimeAt oc ((oc.2 7) (nI k1).toNatClampNeg) ((oc.2 8) (nI k1).toNatClampNeg) p1) = x4_1) (a := (x3_1 ||| (1 <<< ((nI k1) &&& 31)))) (b := x3_1) (J := 78) (ls9 := ls) (rest9 := []) (fun ja7 jb7 => ?_) ?_
          · refine lv_icmp_ne (tgt := 77) hx hb dX0_firstOf_65 (by decide) (fun c6 => ?_) (fun c6 => ?_)
            · skip
              refine lv_iload_n hx hb dX0_firstOf_77 rfl (lv_at hl 3 rfl) ?_
              exact jb7 c6
            · skip
              refine lv_iload_n hx hb dX0_firstOf_68 rfl (lv_at hl 3 rfl) ?_
              refine lv_iconst (v := 1) hx hb dX0_firstOf_69 (by decide) ?_
              refine lv_iload hx hb dX0_firstOf_70 (lv_at hl 1 rfl) ?_
              refine lv_ishl hx hb dX0_firstOf_72 ?_
              refine lv_ior hx hb dX0_firstOf_73 ?_
              refine lv_goto (tgt := 78) hx hb dX0_firstOf_74 (by decide) ?_
              exact ja7 c6
          exact ja5 c4
        · skip
          refine lv_iconst (v := 1) hx hb dX0_firstOf_54 (by decide) ?_
          refine lv_iload hx hb dX0_firstOf_55 (lv_at hl 1 rfl) ?_
          refine lv_ishl hx hb dX0_firstOf_57 ?_
          refine lv_goto (tgt := 78) hx hb dX0_firstOf_58 (by decide) ?_
          exact jb5 c4
      refine lv_topi (fun x8 ex8 => ?_)
      refine lv_istore_n (lv' := [(3, .int x8), (6, .int (fX0_openTimeAt oc ((oc.2 7) (nI k1).toNatClampNeg) ((oc.2 8) (nI k1).toNatClampNeg) p1)), (5, .int (nI k1)), (4, .int x4_1), (0, .ref hc), (1, .int p0), (2, .int p1)]) hx hb dX0_firstOf_78 rfl hl (by decide) rfl (fun ls hl => ?_)
      refine lv_iload hx hb dX0_firstOf_79 (lv_at hl 3 rfl) ?_
      refine lv_iload hx hb dX0_firstOf_81 (lv_at hl 1 rfl) ?_
      refine va_mmin hx hb (by rw [hml]; exact hl.1.symm) hown (hts (.methodLink RX0 79 Lib.Math.min.name) (by decide +kernel)) (hts (.static Lib.Math.min.name) (by decide +kernel)) (hts (.initialized "java/lang/Math") (by decide +kernel)) (hts (.code Lib.Math.min.name Lib.Math.min.code 2 (some .int)) (by decide +kernel)) (Nat.le_of_ble_eq_true rfl) (Nat.le_of_ble_eq_true rfl) (Nat.zero_le _) (Nat.zero_le _) dX0_firstOf_83 ?_
      refine lv_topi (fun x9 ex9 => ?_)
      refine lv_istore (lv' := [(4, .int x9), (3, .int x8), (6, .int (fX0_openTimeAt oc ((oc.2 7) (nI k1).toNatClampNeg) ((oc.2 8) (nI k1).toNatClampNeg) p1)), (5, .int (nI k1)), (0, .ref hc), (1, .int p0), (2, .int p1)]) hx hb dX0_firstOf_86 hl (by decide) rfl (fun ls hl => ?_)
      refine lv_iinc (v := ((nI k1) + 1)) (lv' := [(5, .int ((nI k1) + 1)), (4, .int x9), (3, .int x8), (6, .int (fX0_openTimeAt oc ((oc.2 7) (nI k1).toNatClampNeg) ((oc.2 8) (nI k1).toNatClampNeg) p1)), (0, .ref hc), (1, .int p0), (2, .int p1)]) hx hb dX0_firstOf_88 hl (k := 3) rfl rfl (by decide) rfl (fun ls hl => ?_)
      refine lv_goto (tgt := 10) hx hb dX0_firstOf_91 (by decide) ?_
      have e8 : fX0_firstOf_L10s oc p0 p1 k1 x4_1 x3_1 = (x9, x8) := by
        simp only [fX0_firstOf_L10s, if_neg c3]
        first | rw [← ex8] | (simp only [if_neg c3] at ex8; rw [← ex8])
        unfold fX0_firstOf_L10s_x8
        rw [← ex9]
        simp only [fX0_firstOf_L10s_x8_x9, if_neg c3]
      have e7 : fX0_firstOf_L10 oc p0 p1 1000 0 (k1 + 1) = (x9, x8) := by
        show fX0_firstOf_L10s oc p0 p1 k1 (fX0_firstOf_L10 oc p0 p1 1000 0 k1).1 (fX0_firstOf_L10 oc p0 p1 1000 0 k1).2 = _
        rw [hs1]; exact e8
      have hl9 : lv_has ls 7 [(5, .int (nI (k1 + 1))), (4, .int (fX0_firstOf_L10 oc p0 p1 1000 0 (k1 + 1)).1), (3, .int (fX0_firstOf_L10 oc p0 p1 1000 0 (k1 + 1)).2), (0, .ref hc), (1, .int p0), (2, .int p1)] := by
        rw [nI_succ, e7]; exact lv_sub hl [0, 1, 2, 4, 5, 6] rfl
      exact ih1 ls hl9
  intro ls hl
  refine lv_iload hx hb dX0_firstOf_10 (lv_at hl 0 rfl) ?_
  refine lv_bipush (v := 6) hx hb dX0_firstOf_12 (by decide) ?_
  refine lv_icmp_ge (tgt := 94) hx hb dX0_firstOf_14 (by decide) (fun c10 => ?_) (fun c10 => absurd (nI_le (Nat.le_refl _) (by decide)) c10)
  refine lv_iload_n hx hb dX0_firstOf_94 rfl (lv_at hl 2 rfl) ?_
  have e9 : fX0_firstOf oc p0 p1 = (fX0_firstOf_L10 oc p0 p1 1000 0 (6)).2 := by
    rfl
  exact W.iret hx hb hr (fun t ht hW => ⟨_, rfl, e9.symm, ht⟩) (fun _ h9 => absurd h9 List.not_mem_nil) dX0_firstOf_95

set_option maxHeartbeats 4000000 in
set_option maxRecDepth 100000 in
theorem kX0_rulers (l : Launch) (D : va_G) (cI cZ cC : ClassId) (hc : Nat) (ac : Nat → Nat) (oc : OV) (p0 : Int32)  : Met l yX0_rulers wsX0_rulers ({ frames := 3, cells := 0, slots := 0, locals := 71 }) (pR D (tyv cI cZ cC) (wX0 cI hc ac oc) [.ref hc, .int p0]) (vp_Si (fun r => r = fX0_rulers oc p0)) 0 0 (fun _ => False) := by
  refine Met.ofW (cc := cX0_rulers) (maxL := 2) (ret := (some .int)) (by decide) rfl ?_
  intro p e s m args below meth c s₁ B hml hv
  obtain ⟨rfl, hP, hK, hN⟩ := hv
  have hx := B.exec
  have hb := B.bytes
  have hr := B.returns
  have hts := atoms_spec (ws := wsX0_rulers) B.pre
  have hown : s.vm.findClass RX0 = some m.cls := findClass_of_methodNamed B.named
  have hlocks := B.notSynchronized
  have hP : va_P D vwCl (wX0 cI hc ac oc) s.heap := hP
  have hl := lv_entry ([.ref hc, .int p0]) (n := 2) (Nat.le_of_ble_eq_true rfl)
  rw [lg_entry_eq]
  generalize (lg_sl ([.ref hc, .int p0]) ++ List.replicate (2 - (lg_sl ([.ref hc, .int p0])).length) Slot.unset).toArray = ls at hl ⊢
  have hl : lv_has ls 2 [(0, .ref hc), (1, .int p0)] := hl
  have hSF : CallFix p m c cX0_rulers 2 s _ wsX0_rulers RX0 := ⟨hx, hb, hml, hown, hts⟩
  refine lv_aload_n hx hb dX0_rulers_0 rfl (lv_at hl 0 rfl) ?_
  refine lv_aload_n hx hb dX0_rulers_1 rfl (lv_at hl 0 rfl) ?_
  refine rcVi (b := hc) (As := []) (rest := [.ref hc]) hSF (kX0_umbrellas l D cI cZ cC hc ac oc) (cwV 0 hts gX0_rulers_X0_umbrellas rfl rfl rfl (by decide +kernel) ⟨Nat.le_of_ble_eq_true rfl, Nat.le_of_ble_eq_true rfl⟩) (va_recv hK hP (ci := 0) (q0 := 0) rfl rfl) (hP.sub [0, 1, 2, 3, 4, 5] rfl) hK hN rfl rfl hl.1 (Nat.le_of_ble_eq_true rfl) dX0_rulers_2 ⟨Nat.zero_le _, Nat.zero_le _⟩ ?_
  refine lv_iload_n hx hb dX0_rulers_5 rfl (lv_at hl 1 rfl) ?_
  refine rcVi (b := hc) (As := [.int (fX0_umbrellas oc), .int p0]) (rest := []) hSF (kX0_firstOf l D cI cZ cC hc ac oc (fX0_umbrellas oc) p0) (cwV 2 hts gX0_rulers_X0_firstOf rfl rfl rfl (by decide +kernel) ⟨Nat.le_of_ble_eq_true rfl, Nat.le_of_ble_eq_true rfl⟩) (va_recv hK hP (ci := 0) (q0 := 0) rfl rfl) (hP.sub [0, 1, 2, 3, 4, 5] rfl) hK hN rfl rfl hl.1 (Nat.le_of_ble_eq_true rfl) dX0_rulers_6 ⟨Nat.zero_le _, Nat.zero_le _⟩ ?_
  have e9 : fX0_rulers oc p0 = (fX0_firstOf oc (fX0_umbrellas oc) p0) := by
    rfl
  exact W.iret hx hb hr (fun t ht hW => ⟨_, rfl, e9.symm, ht⟩) (fun _ h9 => absurd h9 List.not_mem_nil) dX0_rulers_9

set_option maxHeartbeats 4000000 in
set_option maxRecDepth 100000 in
theorem kX0_sprinkled (l : Launch) (D : va_G) (cI cZ cC : ClassId) (hc : Nat) (ac : Nat → Nat) (oc : OV) (p0 : Int32)  : Met l yX0_sprinkled wsX0_sprinkled ({ frames := 3, cells := 0, slots := 0, locals := 71 }) (pR D (tyv cI cZ cC) (wX0 cI hc ac oc) [.ref hc, .int p0]) (vp_Si (fun r => r = fX0_sprinkled oc p0)) 0 0 (fun _ => False) := by
  refine Met.ofW (cc := cX0_sprinkled) (maxL := 4) (ret := (some .int)) (by decide) rfl ?_
  intro p e s m args below meth c s₁ B hml hv
  obtain ⟨rfl, hP, hK, hN⟩ := hv
  have hx := B.exec
  have hb := B.bytes
  have hr := B.returns
  have hts := atoms_spec (ws := wsX0_sprinkled) B.pre
  have hown : s.vm.findClass RX0 = some m.cls := findClass_of_methodNamed B.named
  have hlocks := B.notSynchronized
  have hP : va_P D vwCl (wX0 cI hc ac oc) s.heap := hP
  have hl := lv_entry ([.ref hc, .int p0]) (n := 4) (Nat.le_of_ble_eq_true rfl)
  rw [lg_entry_eq]
  generalize (lg_sl ([.ref hc, .int p0]) ++ List.replicate (4 - (lg_sl ([.ref hc, .int p0])).length) Slot.unset).toArray = ls at hl ⊢
  have hl : lv_has ls 4 [(0, .ref hc), (1, .int p0)] := hl
  have hSF : CallFix p m c cX0_sprinkled 4 s _ wsX0_sprinkled RX0 := ⟨hx, hb, hml, hown, hts⟩
  have hi0 : ∀ w ∈ wsX00, w ∈ wsX0_sprinkled := by decide +kernel
  have hf18 : (Cond.fieldLink RX0 18 "UmbrellaVote$City" "places" "[I").before _ s = true := hts _ (by decide +kernel)
  refine lv_aload_n hx hb dX0_sprinkled_0 rfl (lv_at hl 0 rfl) ?_
  refine rcVi (b := hc) (As := []) (rest := []) hSF (kX0_umbrellas l D cI cZ cC hc ac oc) (cwV 0 hts gX0_sprinkled_X0_umbrellas rfl rfl rfl (by decide +kernel) ⟨Nat.le_of_ble_eq_true rfl, Nat.le_of_ble_eq_true rfl⟩) (va_recv hK hP (ci := 0) (q0 := 0) rfl rfl) (hP.sub [0, 1, 2, 3, 4, 5] rfl) hK hN rfl rfl hl.1 (Nat.le_of_ble_eq_true rfl) dX0_sprinkled_1 ⟨Nat.zero_le _, Nat.zero_le _⟩ ?_
  refine lv_istore_n (lv' := [(2, .int (fX0_umbrellas oc)), (0, .ref hc), (1, .int p0)]) hx hb dX0_sprinkled_4 rfl hl (by decide) rfl (fun ls hl => ?_)
  refine lv_iconst (v := 0) hx hb dX0_sprinkled_5 (by decide) ?_
  refine lv_istore_n (lv' := [(3, .int 0), (2, .int (fX0_umbrellas oc)), (0, .ref hc), (1, .int p0)]) hx hb dX0_sprinkled_6 rfl hl (by decide) rfl (fun ls hl => ?_)
  refine W_lpR (6) (fun k9 ls9 => lv_has ls9 4 [(3, .int (nI k9)), (2, .int (fX0_sprinkled_L7 oc p0 (fX0_umbrellas oc) k9)), (0, .ref hc), (1, .int p0)]) (lv_sub hl [0, 1, 2, 3] rfl) ?_ ?_
  · intro k1 ls hk1 hl ih1
    generalize hs1 : fX0_sprinkled_L7 oc p0 (fX0_umbrellas oc) k1 = y1 at hl
    obtain ⟨x2_1, en1⟩ : ∃ z, z = y1 := ⟨_, rfl⟩
    subst en1
    refine lv_iload_n hx hb dX0_sprinkled_7 rfl (lv_at hl 0 rfl) ?_
    refine lv_bipush (v := 6) hx hb dX0_sprinkled_8 (by decide) ?_
    refine lv_icmp_ge (tgt := 40) hx hb dX0_sprinkled_10 (by decide) (fun c2 => absurd c2 (nI_ge hk1 (by decide))) (fun c2 => ?_)
    refine lv_aload_n hx hb dX0_sprinkled_13 rfl (lv_at hl 2 rfl) ?_
    refine va_get (D := D) (ci := 0) (v := .ref (ac 7)) (C := RX0) (T := TX0) (N := 12) hx hb hts hi0 hown hK hP 0 rfl rfl 7 (by decide) hf18 (fun _ h9 => h9) rfl dX0_sprinkled_14 ?_
    refine lv_iload_n hx hb dX0_sprinkled_17 rfl (lv_at hl 0 rfl) ?_
    refine va_iald (f := (oc.2 7)) hx hb hK hP 1 0 rfl rfl (vp_in_nI (Nat.lt_of_lt_of_le hk1 (by decide)) (by decide)) dX0_sprinkled_18 ?_
    refine lv_iload_n hx hb dX0_sprinkled_19 rfl (lv_at hl 3 rfl) ?_
    refine W_itei (P := ((oc.2 7) (nI k1).toNatClampNeg) = p0) (a := x2_1) (b := (fX4_withBit x2_1 (nI k1) 0)) (J := 33) (ls9 := ls) (rest9 := []) (fun ja4 jb4 => ?_) ?_
    · refine lv_icmp_ne (tgt := 27) hx hb dX0_sprinkled_20 (by decide) (fun c3 => ?_) (fun c3 => ?_)
      · skip
        refine lv_iload_n hx hb dX0_sprinkled_27 rfl (lv_at hl 1 rfl) ?_
        refine lv_iload_n hx hb dX0_sprinkled_28 rfl (lv_at hl 0 rfl) ?_
        refine lv_iconst (v := 0) hx hb dX0_sprinkled_29 (by decide) ?_
        refine rcNi (As := [.int x2_1, .int (nI k1), .int 0]) (rest := []) hSF (kX4_withBit l D cI cZ cC x2_1 (nI k1) 0) (va_cnB 3 hts gX0_sprinkled_X4_withBit_n90 rfl rfl rfl (hN.1 (.methodLinkNest RX0 90 yX4_withBit "UmbrellaVote") (by decide +kernel)) (hts (.initialized RX4) (by decide +kernel)) (by decide +kernel) ⟨Nat.le_of_ble_eq_true rfl, Nat.le_of_ble_eq_true rfl⟩) (hts (.static yX4_withBit) (by decide +kernel)) (hP.sub [] rfl) hK hN rfl rfl hl.1 (Nat.le_of_ble_eq_true rfl) dX0_sprinkled_30 ⟨Nat.zero_le _, Nat.zero_le _⟩ ?_
        exact jb4 c3
      · skip
        refine lv_iload_n hx hb dX0_sprinkled_23 rfl (lv_at hl 1 rfl) ?_
        refine lv_goto (tgt := 33) hx hb dX0_sprinkled_24 (by decide) ?_
        exact ja4 c3
    refine lv_istore_n (lv' := [(2, .int (if ((oc.2 7) (nI k1).toNatClampNeg) = p0 then x2_1 else (fX4_withBit x2_1 (nI k1) 0))), (3, .int (nI k1)), (0, .ref hc), (1, .int p0)]) hx hb dX0_sprinkled_33 rfl hl (by decide) rfl (fun ls hl => ?_)
    refine lv_iinc (v := ((nI k1) + 1)) (lv' := [(3, .int ((nI k1) + 1)), (2, .int (if ((oc.2 7) (nI k1).toNatClampNeg) = p0 then x2_1 else (fX4_withBit x2_1 (nI k1) 0))), (0, .ref hc), (1, .int p0)]) hx hb dX0_sprinkled_34 hl (k := 1) rfl rfl (by decide) rfl (fun ls hl => ?_)
    refine lv_goto (tgt := 7) hx hb dX0_sprinkled_37 (by decide) ?_
    have e8 : fX0_sprinkled_L7s oc p0 k1 x2_1 = (if ((oc.2 7) (nI k1).toNatClampNeg) = p0 then x2_1 else (fX4_withBit x2_1 (nI k1) 0)) := by
      rfl
    have e7 : fX0_sprinkled_L7 oc p0 (fX0_umbrellas oc) (k1 + 1) = (if ((oc.2 7) (nI k1).toNatClampNeg) = p0 then x2_1 else (fX4_withBit x2_1 (nI k1) 0)) := by
      show fX0_sprinkled_L7s oc p0 k1 (fX0_sprinkled_L7 oc p0 (fX0_umbrellas oc) k1) = _
      rw [hs1]; exact e8
    have hl9 : lv_has ls 4 [(3, .int (nI (k1 + 1))), (2, .int (fX0_sprinkled_L7 oc p0 (fX0_umbrellas oc) (k1 + 1))), (0, .ref hc), (1, .int p0)] := by
      rw [nI_succ, e7]; exact lv_sub hl [0, 1, 2, 3] rfl
    exact ih1 ls hl9
  intro ls hl
  refine lv_iload_n hx hb dX0_sprinkled_7 rfl (lv_at hl 0 rfl) ?_
  refine lv_bipush (v := 6) hx hb dX0_sprinkled_8 (by decide) ?_
  refine lv_icmp_ge (tgt := 40) hx hb dX0_sprinkled_10 (by decide) (fun c5 => ?_) (fun c5 => absurd (nI_le (Nat.le_refl _) (by decide)) c5)
  refine lv_aload_n hx hb dX0_sprinkled_40 rfl (lv_at hl 2 rfl) ?_
  refine lv_iload_n hx hb dX0_sprinkled_41 rfl (lv_at hl 1 rfl) ?_
  refine lv_iload_n hx hb dX0_sprinkled_42 rfl (lv_at hl 3 rfl) ?_
  refine rcVi (b := hc) (As := [.int (fX0_sprinkled_L7 oc p0 (fX0_umbrellas oc) (6)), .int p0]) (rest := []) hSF (kX0_firstOf l D cI cZ cC hc ac oc (fX0_sprinkled_L7 oc p0 (fX0_umbrellas oc) (6)) p0) (cwV 2 hts gX0_sprinkled_X0_firstOf rfl rfl rfl (by decide +kernel) ⟨Nat.le_of_ble_eq_true rfl, Nat.le_of_ble_eq_true rfl⟩) (va_recv hK hP (ci := 0) (q0 := 0) rfl rfl) (hP.sub [0, 1, 2, 3, 4, 5] rfl) hK hN rfl rfl hl.1 (Nat.le_of_ble_eq_true rfl) dX0_sprinkled_43 ⟨Nat.zero_le _, Nat.zero_le _⟩ ?_
  have e9 : fX0_sprinkled oc p0 = (fX0_firstOf oc (fX0_sprinkled_L7 oc p0 (fX0_umbrellas oc) (6)) p0) := by
    rfl
  exact W.iret hx hb hr (fun t ht hW => ⟨_, rfl, e9.symm, ht⟩) (fun _ h9 => absurd h9 List.not_mem_nil) dX0_sprinkled_46

set_option maxHeartbeats 4000000 in
set_option maxRecDepth 100000 in
theorem kX0_allWeights (l : Launch) (D : va_G) (cI cZ cC : ClassId) (hc : Nat) (ac : Nat → Nat) (oc : OV)   : Met l yX0_allWeights wsX0_allWeights ({ frames := 0, cells := 0, slots := 0, locals := 0 }) (pR D (tyv cI cZ cC) (wX0 cI hc ac oc) [.ref hc]) (vp_Si (fun r => r = fX0_allWeights oc)) 0 0 (fun _ => False) := by
  refine Met.ofW (cc := cX0_allWeights) (maxL := 3) (ret := (some .int)) (by decide) rfl ?_
  intro p e s m args below meth c s₁ B hml hv
  obtain ⟨rfl, hP, hK, hN⟩ := hv
  have hx := B.exec
  have hb := B.bytes
  have hr := B.returns
  have hts := atoms_spec (ws := wsX0_allWeights) B.pre
  have hown : s.vm.findClass RX0 = some m.cls := findClass_of_methodNamed B.named
  have hlocks := B.notSynchronized
  have hP : va_P D vwCl (wX0 cI hc ac oc) s.heap := hP
  have hl := lv_entry ([.ref hc]) (n := 3) (Nat.le_of_ble_eq_true rfl)
  rw [lg_entry_eq]
  generalize (lg_sl ([.ref hc]) ++ List.replicate (3 - (lg_sl ([.ref hc])).length) Slot.unset).toArray = ls at hl ⊢
  have hl : lv_has ls 3 [(0, .ref hc)] := hl
  have hSF : CallFix p m c cX0_allWeights 3 s _ wsX0_allWeights RX0 := ⟨hx, hb, hml, hown, hts⟩
  have hi0 : ∀ w ∈ wsX00, w ∈ wsX0_allWeights := by decide +kernel
  have hf25 : (Cond.fieldLink RX0 25 "UmbrellaVote$City" "weights" "[I").before _ s = true := hts _ (by decide +kernel)
  refine lv_iconst (v := 0) hx hb dX0_allWeights_0 (by decide) ?_
  refine lv_istore_n (lv' := [(1, .int 0), (0, .ref hc)]) hx hb dX0_allWeights_1 rfl hl (by decide) rfl (fun ls hl => ?_)
  refine lv_iconst (v := 0) hx hb dX0_allWeights_2 (by decide) ?_
  refine lv_istore_n (lv' := [(2, .int 0), (1, .int 0), (0, .ref hc)]) hx hb dX0_allWeights_3 rfl hl (by decide) rfl (fun ls hl => ?_)
  refine W_lpR (10) (fun k9 ls9 => lv_has ls9 3 [(2, .int (nI k9)), (1, .int (fX0_allWeights_L4 oc 0 k9)), (0, .ref hc)]) (lv_sub hl [0, 1, 2] rfl) ?_ ?_
  · intro k1 ls hk1 hl ih1
    generalize hs1 : fX0_allWeights_L4 oc 0 k1 = y1 at hl
    obtain ⟨x1_1, en1⟩ : ∃ z, z = y1 := ⟨_, rfl⟩
    subst en1
    refine lv_iload_n hx hb dX0_allWeights_4 rfl (lv_at hl 0 rfl) ?_
    refine lv_bipush (v := 10) hx hb dX0_allWeights_5 (by decide) ?_
    refine lv_icmp_ge (tgt := 25) hx hb dX0_allWeights_7 (by decide) (fun c2 => absurd c2 (nI_ge hk1 (by decide))) (fun c2 => ?_)
    refine lv_iload_n hx hb dX0_allWeights_10 rfl (lv_at hl 1 rfl) ?_
    refine lv_aload_n hx hb dX0_allWeights_11 rfl (lv_at hl 2 rfl) ?_
    refine va_get (D := D) (ci := 0) (v := .ref (ac 9)) (C := RX0) (T := TX0) (N := 12) hx hb hts hi0 hown hK hP 0 rfl rfl 9 (by decide) hf25 (fun _ h9 => h9) rfl dX0_allWeights_12 ?_
    refine lv_iload_n hx hb dX0_allWeights_15 rfl (lv_at hl 0 rfl) ?_
    refine va_iald (f := (oc.2 9)) hx hb hK hP 3 0 rfl rfl (vp_in_nI (Nat.lt_of_lt_of_le hk1 (by decide)) (by decide)) dX0_allWeights_16 ?_
    refine lv_iadd hx hb dX0_allWeights_17 ?_
    refine lv_istore_n (lv' := [(1, .int (x1_1 + ((oc.2 9) (nI k1).toNatClampNeg))), (2, .int (nI k1)), (0, .ref hc)]) hx hb dX0_allWeights_18 rfl hl (by decide) rfl (fun ls hl => ?_)
    refine lv_iinc (v := ((nI k1) + 1)) (lv' := [(2, .int ((nI k1) + 1)), (1, .int (x1_1 + ((oc.2 9) (nI k1).toNatClampNeg))), (0, .ref hc)]) hx hb dX0_allWeights_19 hl (k := 1) rfl rfl (by decide) rfl (fun ls hl => ?_)
    refine lv_goto (tgt := 4) hx hb dX0_allWeights_22 (by decide) ?_
    have e8 : fX0_allWeights_L4s oc k1 x1_1 = (x1_1 + ((oc.2 9) (nI k1).toNatClampNeg)) := by
      rfl
    have e7 : fX0_allWeights_L4 oc 0 (k1 + 1) = (x1_1 + ((oc.2 9) (nI k1).toNatClampNeg)) := by
      show fX0_allWeights_L4s oc k1 (fX0_allWeights_L4 oc 0 k1) = _
      rw [hs1]; exact e8
    have hl9 : lv_has ls 3 [(2, .int (nI (k1 + 1))), (1, .int (fX0_allWeights_L4 oc 0 (k1 + 1))), (0, .ref hc)] := by
      rw [nI_succ, e7]; exact lv_sub hl [0, 1, 2] rfl
    exact ih1 ls hl9
  intro ls hl
  refine lv_iload_n hx hb dX0_allWeights_4 rfl (lv_at hl 0 rfl) ?_
  refine lv_bipush (v := 10) hx hb dX0_allWeights_5 (by decide) ?_
  refine lv_icmp_ge (tgt := 25) hx hb dX0_allWeights_7 (by decide) (fun c3 => ?_) (fun c3 => absurd (nI_le (Nat.le_refl _) (by decide)) c3)
  refine lv_iload_n hx hb dX0_allWeights_25 rfl (lv_at hl 1 rfl) ?_
  have e9 : fX0_allWeights oc = (fX0_allWeights_L4 oc 0 (10)) := by
    rfl
  exact W.iret hx hb hr (fun t ht hW => ⟨_, rfl, e9.symm, ht⟩) (fun _ h9 => absurd h9 List.not_mem_nil) dX0_allWeights_26

set_option maxHeartbeats 4000000 in
set_option maxRecDepth 100000 in
theorem kX0_allShares (l : Launch) (D : va_G) (cI cZ cC : ClassId) (hc : Nat) (ac : Nat → Nat) (oc : OV)   : Met l yX0_allShares wsX0_allShares ({ frames := 1, cells := 0, slots := 0, locals := 22 }) (pR D (tyv cI cZ cC) (wX0 cI hc ac oc) [.ref hc]) (vp_Si (fun r => r = fX0_allShares oc)) 0 0 (fun _ => False) := by
  refine Met.ofW (cc := cX0_allShares) (maxL := 1) (ret := (some .int)) (by decide) rfl ?_
  intro p e s m args below meth c s₁ B hml hv
  obtain ⟨rfl, hP, hK, hN⟩ := hv
  have hx := B.exec
  have hb := B.bytes
  have hr := B.returns
  have hts := atoms_spec (ws := wsX0_allShares) B.pre
  have hown : s.vm.findClass RX0 = some m.cls := findClass_of_methodNamed B.named
  have hlocks := B.notSynchronized
  have hP : va_P D vwCl (wX0 cI hc ac oc) s.heap := hP
  have hl := lv_entry ([.ref hc]) (n := 1) (Nat.le_of_ble_eq_true rfl)
  rw [lg_entry_eq]
  generalize (lg_sl ([.ref hc]) ++ List.replicate (1 - (lg_sl ([.ref hc])).length) Slot.unset).toArray = ls at hl ⊢
  have hl : lv_has ls 1 [(0, .ref hc)] := hl
  have hSF : CallFix p m c cX0_allShares 1 s _ wsX0_allShares RX0 := ⟨hx, hb, hml, hown, hts⟩
  refine lv_aload_n hx hb dX0_allShares_0 rfl (lv_at hl 0 rfl) ?_
  refine rcVi (b := hc) (As := []) (rest := []) hSF (kX0_allWeights l D cI cZ cC hc ac oc) (cwV 0 hts gX0_allShares_X0_allWeights rfl rfl rfl (by decide +kernel) ⟨Nat.le_of_ble_eq_true rfl, Nat.le_of_ble_eq_true rfl⟩) (va_recv hK hP (ci := 0) (q0 := 0) rfl rfl) (hP.sub [0, 1, 2, 3, 4, 5] rfl) hK hN rfl rfl hl.1 (Nat.le_of_ble_eq_true rfl) dX0_allShares_1 ⟨Nat.zero_le _, Nat.zero_le _⟩ ?_
  refine lv_bipush (v := 60) hx hb dX0_allShares_4 (by decide) ?_
  refine lv_imul hx hb dX0_allShares_6 ?_
  have e9 : fX0_allShares oc = ((fX0_allWeights oc) * 60) := by
    rfl
  exact W.iret hx hb hr (fun t ht hW => ⟨_, rfl, e9.symm, ht⟩) (fun _ h9 => absurd h9 List.not_mem_nil) dX0_allShares_7

set_option maxHeartbeats 4000000 in
set_option maxRecDepth 100000 in
theorem kX0_shareOf (l : Launch) (D : va_G) (cI cZ cC : ClassId) (hc : Nat) (ac : Nat → Nat) (oc : OV) (p0 : Int32)  : Met l yX0_shareOf wsX0_shareOf ({ frames := 3, cells := 0, slots := 0, locals := 71 }) (pR D (tyv cI cZ cC) (wX0 cI hc ac oc) [.ref hc, .int p0]) (vp_Si (fun r => r = fX0_shareOf oc p0)) 0 0 (fun _ => False) := by
  refine Met.ofW (cc := cX0_shareOf) (maxL := 6) (ret := (some .int)) (by decide) rfl ?_
  intro p e s m args below meth c s₁ B hml hv
  obtain ⟨rfl, hP, hK, hN⟩ := hv
  have hx := B.exec
  have hb := B.bytes
  have hr := B.returns
  have hts := atoms_spec (ws := wsX0_shareOf) B.pre
  have hown : s.vm.findClass RX0 = some m.cls := findClass_of_methodNamed B.named
  have hlocks := B.notSynchronized
  have hP : va_P D vwCl (wX0 cI hc ac oc) s.heap := hP
  have hl := lv_entry ([.ref hc, .int p0]) (n := 6) (Nat.le_of_ble_eq_true rfl)
  rw [lg_entry_eq]
  generalize (lg_sl ([.ref hc, .int p0]) ++ List.replicate (6 - (lg_sl ([.ref hc, .int p0])).length) Slot.unset).toArray = ls at hl ⊢
  have hl : lv_has ls 6 [(0, .ref hc), (1, .int p0)] := hl
  have hSF : CallFix p m c cX0_shareOf 6 s _ wsX0_shareOf RX0 := ⟨hx, hb, hml, hown, hts⟩
  have hi0 : ∀ w ∈ wsX00, w ∈ wsX0_shareOf := by decide +kernel
  have hf25 : (Cond.fieldLink RX0 25 "UmbrellaVote$City" "weights" "[I").before _ s = true := hts _ (by decide +kernel)
  refine lv_iconst (v := 0) hx hb dX0_shareOf_0 (by decide) ?_
  refine lv_istore_n (lv' := [(2, .int 0), (0, .ref hc), (1, .int p0)]) hx hb dX0_shareOf_1 rfl hl (by decide) rfl (fun ls hl => ?_)
  refine lv_iconst (v := 0) hx hb dX0_shareOf_2 (by decide) ?_
  refine lv_istore_n (lv' := [(3, .int 0), (2, .int 0), (0, .ref hc), (1, .int p0)]) hx hb dX0_shareOf_3 rfl hl (by decide) rfl (fun ls hl => ?_)
  refine W_lpR (10) (fun k9 ls9 => lv_has ls9 6 [(3, .int (nI k9)), (2, .int (fX0_shareOf_L4 oc p0 0 k9)), (0, .ref hc), (1, .int p0)]) (lv_sub hl [0, 1, 2, 3] rfl) ?_ ?_
  · intro k1 ls hk1 hl ih1
    generalize hs1 : fX0_shareOf_L4 oc p0 0 k1 = y1 at hl
    obtain ⟨x2_1, en1⟩ : ∃ z, z = y1 := ⟨_, rfl⟩
    subst en1
    refine lv_iload_n hx hb dX0_shareOf_4 rfl (lv_at hl 0 rfl) ?_
    refine lv_bipush (v := 10) hx hb dX0_shareOf_5 (by decide) ?_
    refine lv_icmp_ge (tgt := 62) hx hb dX0_shareOf_7 (by decide) (fun c2 => absurd c2 (nI_ge hk1 (by decide))) (fun c2 => ?_)
    refine lv_aload_n hx hb dX0_shareOf_10 rfl (lv_at hl 2 rfl) ?_
    refine lv_aload_n hx hb dX0_shareOf_11 rfl (lv_at hl 2 rfl) ?_
    refine rcVi (b := hc) (As := []) (rest := [.ref hc]) hSF (kX0_umbrellas l D cI cZ cC hc ac oc) (cwV 0 hts gX0_shareOf_X0_umbrellas rfl rfl rfl (by decide +kernel) ⟨Nat.le_of_ble_eq_true rfl, Nat.le_of_ble_eq_true rfl⟩) (va_recv hK hP (ci := 0) (q0 := 0) rfl rfl) (hP.sub [0, 1, 2, 3, 4, 5] rfl) hK hN rfl rfl hl.1 (Nat.le_of_ble_eq_true rfl) dX0_shareOf_12 ⟨Nat.zero_le _, Nat.zero_le _⟩ ?_
    refine lv_iload_n hx hb dX0_shareOf_15 rfl (lv_at hl 0 rfl) ?_
    refine rcVi (b := hc) (As := [.int (fX0_umbrellas oc), .int (nI k1)]) (rest := []) hSF (kX0_firstOf l D cI cZ cC hc ac oc (fX0_umbrellas oc) (nI k1)) (cwV 2 hts gX0_shareOf_X0_firstOf rfl rfl rfl (by decide +kernel) ⟨Nat.le_of_ble_eq_true rfl, Nat.le_of_ble_eq_true rfl⟩) (va_recv hK hP (ci := 0) (q0 := 0) rfl rfl) (hP.sub [0, 1, 2, 3, 4, 5] rfl) hK hN rfl rfl hl.1 (Nat.le_of_ble_eq_true rfl) dX0_shareOf_16 ⟨Nat.zero_le _, Nat.zero_le _⟩ ?_
    refine lv_istore (lv' := [(4, .int (fX0_firstOf oc (fX0_umbrellas oc) (nI k1))), (3, .int (nI k1)), (2, .int x2_1), (0, .ref hc), (1, .int p0)]) hx hb dX0_shareOf_19 hl (by decide) rfl (fun ls hl => ?_)
    refine lv_iload hx hb dX0_shareOf_21 (lv_at hl 0 rfl) ?_
    refine rcSi (As := [.int (fX0_firstOf oc (fX0_umbrellas oc) (nI k1))]) (rest := []) hSF (kJ6_bitCount_0f7a4 l D cI cZ cC (fX0_firstOf oc (fX0_umbrellas oc) (nI k1))) (va_cwS 1 hts gX0_shareOf_J6_bitCount_0f7a4 rfl rfl rfl (by decide +kernel) ⟨Nat.le_of_ble_eq_true rfl, Nat.le_of_ble_eq_true rfl⟩) (hP.sub [] rfl) hK hN rfl rfl hl.1 (Nat.le_of_ble_eq_true rfl) dX0_shareOf_23 ⟨Nat.zero_le _, Nat.zero_le _⟩ ?_
    refine lv_istore (lv' := [(5, .int (fJ6_bitCount_0f7a4 (fX0_firstOf oc (fX0_umbrellas oc) (nI k1)))), (4, .int (fX0_firstOf oc (fX0_umbrellas oc) (nI k1))), (3, .int (nI k1)), (2, .int x2_1), (0, .ref hc), (1, .int p0)]) hx hb dX0_shareOf_26 hl (by decide) rfl (fun ls hl => ?_)
    refine lv_iload hx hb dX0_shareOf_28 (lv_at hl 0 rfl) ?_
    refine lv_if_le (tgt := 56) hx hb dX0_shareOf_30 (by decide) (fun c3 => ?_) (fun c3 => ?_)
    · skip
      refine lv_iinc (v := ((nI k1) + 1)) (lv' := [(3, .int ((nI k1) + 1)), (5, .int (fJ6_bitCount_0f7a4 (fX0_firstOf oc (fX0_umbrellas oc) (nI k1)))), (4, .int (fX0_firstOf oc (fX0_umbrellas oc) (nI k1))), (2, .int x2_1), (0, .ref hc), (1, .int p0)]) hx hb dX0_shareOf_56 hl (k := 2) rfl rfl (by decide) rfl (fun ls hl => ?_)
      refine lv_goto (tgt := 4) hx hb dX0_shareOf_59 (by decide) ?_
      have e8 : fX0_shareOf_L4s oc p0 k1 x2_1 = x2_1 := by
        simp only [fX0_shareOf_L4s, if_pos c3]
      have e7 : fX0_shareOf_L4 oc p0 0 (k1 + 1) = x2_1 := by
        show fX0_shareOf_L4s oc p0 k1 (fX0_shareOf_L4 oc p0 0 k1) = _
        rw [hs1]; exact e8
      have hl9 : lv_has ls 6 [(3, .int (nI (k1 + 1))), (2, .int (fX0_shareOf_L4 oc p0 0 (k1 + 1))), (0, .ref hc), (1, .int p0)] := by
        rw [nI_succ, e7]; exact lv_sub hl [0, 3, 4, 5] rfl
      exact ih1 ls hl9
    · skip
      refine lv_iload_n hx hb dX0_shareOf_33 rfl (lv_at hl 3 rfl) ?_
      refine lv_aload_n hx hb dX0_shareOf_34 rfl (lv_at hl 4 rfl) ?_
      refine va_get (D := D) (ci := 0) (v := .ref (ac 9)) (C := RX0) (T := TX0) (N := 12) hx hb hts hi0 hown hK hP 0 rfl rfl 9 (by decide) hf25 (fun _ h9 => h9) rfl dX0_shareOf_35 ?_
      refine lv_iload_n hx hb dX0_shareOf_38 rfl (lv_at hl 2 rfl) ?_
      refine va_iald (f := (oc.2 9)) hx hb hK hP 3 0 rfl rfl (vp_in_nI (Nat.lt_of_lt_of_le hk1 (by decide)) (by decide)) dX0_shareOf_39 ?_
      refine lv_bipush (v := 60) hx hb dX0_shareOf_40 (by decide) ?_
      refine lv_iload hx hb dX0_shareOf_42 (lv_at hl 0 rfl) ?_
      refine lv_idiv hx hb dX0_shareOf_44 (by first | with_reducible assumption | exact nz_lt1 (by with_reducible assumption) | exact nz_lt1' (by with_reducible assumption) | exact nz_le0 (by with_reducible assumption)) ?_
      refine lv_imul hx hb dX0_shareOf_45 ?_
      refine lv_iload hx hb dX0_shareOf_46 (lv_at hl 1 rfl) ?_
      refine lv_iload_n hx hb dX0_shareOf_48 rfl (lv_at hl 5 rfl) ?_
      refine lv_iand hx hb dX0_shareOf_49 ?_
      refine rcSi (As := [.int ((fX0_firstOf oc (fX0_umbrellas oc) (nI k1)) &&& p0)]) (rest := [.int (((oc.2 9) (nI k1).toNatClampNeg) * (60 / (fJ6_bitCount_0f7a4 (fX0_firstOf oc (fX0_umbrellas oc) (nI k1))))), .int x2_1]) hSF (kJ6_bitCount_0f7a4 l D cI cZ cC ((fX0_firstOf oc (fX0_umbrellas oc) (nI k1)) &&& p0)) (va_cwS 1 hts gX0_shareOf_J6_bitCount_0f7a4 rfl rfl rfl (by decide +kernel) ⟨Nat.le_of_ble_eq_true rfl, Nat.le_of_ble_eq_true rfl⟩) (hP.sub [] rfl) hK hN rfl rfl hl.1 (Nat.le_of_ble_eq_true rfl) dX0_shareOf_50 ⟨Nat.zero_le _, Nat.zero_le _⟩ ?_
      refine lv_imul hx hb dX0_shareOf_53 ?_
      refine lv_iadd hx hb dX0_shareOf_54 ?_
      refine lv_topi (fun x4 ex4 => ?_)
      refine lv_istore_n (lv' := [(2, .int x4), (5, .int (fJ6_bitCount_0f7a4 (fX0_firstOf oc (fX0_umbrellas oc) (nI k1)))), (4, .int (fX0_firstOf oc (fX0_umbrellas oc) (nI k1))), (3, .int (nI k1)), (0, .ref hc), (1, .int p0)]) hx hb dX0_shareOf_55 rfl hl (by decide) rfl (fun ls hl => ?_)
      refine lv_iinc (v := ((nI k1) + 1)) (lv' := [(3, .int ((nI k1) + 1)), (2, .int x4), (5, .int (fJ6_bitCount_0f7a4 (fX0_firstOf oc (fX0_umbrellas oc) (nI k1)))), (4, .int (fX0_firstOf oc (fX0_umbrellas oc) (nI k1))), (0, .ref hc), (1, .int p0)]) hx hb dX0_shareOf_56 hl (k := 3) rfl rfl (by decide) rfl (fun ls hl => ?_)
      refine lv_goto (tgt := 4) hx hb dX0_shareOf_59 (by decide) ?_
      have e8 : fX0_shareOf_L4s oc p0 k1 x2_1 = x4 := by
        simp only [fX0_shareOf_L4s, if_neg c3]
        first | rw [← ex4] | (simp only [if_neg c3] at ex4; rw [← ex4])
        simp only [fX0_shareOf_L4s_x4, if_neg c3]
      have e7 : fX0_shareOf_L4 oc p0 0 (k1 + 1) = x4 := by
        show fX0_shareOf_L4s oc p0 k1 (fX0_shareOf_L4 oc p0 0 k1) = _
        rw [hs1]; exact e8
      have hl9 : lv_has ls 6 [(3, .int (nI (k1 + 1))), (2, .int (fX0_shareOf_L4 oc p0 0 (k1 + 1))), (0, .ref hc), (1, .int p0)] := by
        rw [nI_succ, e7]; exact lv_sub hl [0, 1, 4, 5] rfl
      exact ih1 ls hl9
  intro ls hl
  refine lv_iload_n hx hb dX0_shareOf_4 rfl (lv_at hl 0 rfl) ?_
  refine lv_bipush (v := 10) hx hb dX0_shareOf_5 (by decide) ?_
  refine lv_icmp_ge (tgt := 62) hx hb dX0_shareOf_7 (by decide) (fun c5 => ?_) (fun c5 => absurd (nI_le (Nat.le_refl _) (by decide)) c5)
  refine lv_iload_n hx hb dX0_shareOf_62 rfl (lv_at hl 1 rfl) ?_
  have e9 : fX0_shareOf oc p0 = (fX0_shareOf_L4 oc p0 0 (10)) := by
    rfl
  exact W.iret hx hb hr (fun t ht hW => ⟨_, rfl, e9.symm, ht⟩) (fun _ h9 => absurd h9 List.not_mem_nil) dX0_shareOf_63

set_option maxHeartbeats 4000000 in
set_option maxRecDepth 100000 in
theorem kX0_fitsSights (l : Launch) (D : va_G) (cI cZ cC : ClassId) (hc : Nat) (ac : Nat → Nat) (oc : OV) (p0 : Int32)  : Met l yX0_fitsSights wsX0_fitsSights ({ frames := 1, cells := 0, slots := 0, locals := 21 }) (pR D (tyv cI cZ cC) (wX0 cI hc ac oc) [.ref hc, .int p0]) (vp_Si (fun r => r = fX0_fitsSights oc p0)) 0 0 (fun _ => False) := by
  refine Met.ofW (cc := cX0_fitsSights) (maxL := 5) (ret := (some .boolean)) (by decide) rfl ?_
  intro p e s m args below meth c s₁ B hml hv
  obtain ⟨rfl, hP, hK, hN⟩ := hv
  have hx := B.exec
  have hb := B.bytes
  have hr := B.returns
  have hts := atoms_spec (ws := wsX0_fitsSights) B.pre
  have hown : s.vm.findClass RX0 = some m.cls := findClass_of_methodNamed B.named
  have hlocks := B.notSynchronized
  have hP : va_P D vwCl (wX0 cI hc ac oc) s.heap := hP
  have hl := lv_entry ([.ref hc, .int p0]) (n := 5) (Nat.le_of_ble_eq_true rfl)
  rw [lg_entry_eq]
  generalize (lg_sl ([.ref hc, .int p0]) ++ List.replicate (5 - (lg_sl ([.ref hc, .int p0])).length) Slot.unset).toArray = ls at hl ⊢
  have hl : lv_has ls 5 [(0, .ref hc), (1, .int p0)] := hl
  have hSF : CallFix p m c cX0_fitsSights 5 s _ wsX0_fitsSights RX0 := ⟨hx, hb, hml, hown, hts⟩
  have hi0 : ∀ w ∈ wsX00, w ∈ wsX0_fitsSights := by decide +kernel
  have hf52 : (Cond.fieldLink RX0 52 "UmbrellaVote$City" "sights" "I").before _ s = true := hts _ (by decide +kernel)
  have hf31 : (Cond.fieldLink RX0 31 "UmbrellaVote$City" "sightOfs" "[I").before _ s = true := hts _ (by decide +kernel)
  have hf28 : (Cond.fieldLink RX0 28 "UmbrellaVote$City" "sightHows" "[I").before _ s = true := hts _ (by decide +kernel)
  refine lv_iconst (v := 0) hx hb dX0_fitsSights_0 (by decide) ?_
  refine lv_istore_n (lv' := [(2, .int 0), (0, .ref hc), (1, .int p0)]) hx hb dX0_fitsSights_1 rfl hl (by decide) rfl (fun ls hl => ?_)
  refine W_ltR (σ := Unit) (6) (fun r9 k9 x9 ls9 => lv_has ls9 5 [(2, .int (nI k9)), (0, .ref hc), (1, .int p0)] ∧ fX0_fitsSights_L2 oc p0 r9 k9  = fX0_fitsSights_L2 oc p0 (6) 0) () ⟨lv_sub hl [0, 1, 2] rfl, rfl⟩ ?_ ?_
  · intro r1 k1 y1 ls hr1 hI9 ih1
    obtain ⟨hl, hG1⟩ := hI9
    have hG1 : fX0_fitsSights_L2 oc p0 (r1 + 1) k1  = fX0_fitsSights_L2 oc p0 (6) 0 := hG1
    have hl : lv_has ls 5 [(2, .int (nI k1)), (0, .ref hc), (1, .int p0)] := hl
    have hk1 : k1 < 6 := by omega
    refine lv_iload_n hx hb dX0_fitsSights_2 rfl (lv_at hl 0 rfl) ?_
    refine lv_aload_n hx hb dX0_fitsSights_3 rfl (lv_at hl 1 rfl) ?_
    refine va_get (D := D) (ci := 0) (v := .int (oc.1 6)) (C := RX0) (T := TX0) (N := 12) hx hb hts hi0 hown hK hP 0 rfl rfl 6 (by decide) hf52 (fun _ h9 => h9) rfl dX0_fitsSights_4 ?_
    refine lv_icmp_ge (tgt := 88) hx hb dX0_fitsSights_7 (by decide) (fun c2 => ?_) (fun c2 => ?_)
    · skip
      refine lv_iconst (v := 1) hx hb dX0_fitsSights_88 (by decide) ?_
      have e9 : fX0_fitsSights oc p0 = 1 := by
        refine Eq.trans (b := fX0_fitsSights_L2 oc p0 (6) 0) ?_ ?_
        · rfl
        · rw [← hG1]; simp only [fX0_fitsSights_L2, if_pos c2]
      exact W.zret hx hb hr (nar_z (Or.inr rfl)) (fun t ht hW => ⟨_, rfl, e9.symm, ht⟩) (fun _ h9 => absurd h9 List.not_mem_nil) dX0_fitsSights_89
    · skip
      refine lv_iload_n hx hb dX0_fitsSights_10 rfl (lv_at hl 0 rfl) ?_
      refine lv_bipush (v := 6) hx hb dX0_fitsSights_11 (by decide) ?_
      refine lv_icmp_ge (tgt := 88) hx hb dX0_fitsSights_13 (by decide) (fun c3 => absurd c3 (nI_ge hk1 (by decide))) (fun c3 => ?_)
      refine lv_aload_n hx hb dX0_fitsSights_16 rfl (lv_at hl 1 rfl) ?_
      refine va_get (D := D) (ci := 0) (v := .ref (ac 11)) (C := RX0) (T := TX0) (N := 12) hx hb hts hi0 hown hK hP 0 rfl rfl 11 (by decide) hf31 (fun _ h9 => h9) rfl dX0_fitsSights_17 ?_
      refine lv_iload_n hx hb dX0_fitsSights_20 rfl (lv_at hl 0 rfl) ?_
      refine va_iald (f := (oc.2 11)) hx hb hK hP 5 0 rfl rfl (vp_in_nI (Nat.lt_of_lt_of_le hk1 (by decide)) (by decide)) dX0_fitsSights_21 ?_
      refine lv_istore_n (lv' := [(3, .int ((oc.2 11) (nI k1).toNatClampNeg)), (2, .int (nI k1)), (0, .ref hc), (1, .int p0)]) hx hb dX0_fitsSights_22 rfl hl (by decide) rfl (fun ls hl => ?_)
      refine lv_aload_n hx hb dX0_fitsSights_23 rfl (lv_at hl 2 rfl) ?_
      refine va_get (D := D) (ci := 0) (v := .ref (ac 10)) (C := RX0) (T := TX0) (N := 12) hx hb hts hi0 hown hK hP 0 rfl rfl 10 (by decide) hf28 (fun _ h9 => h9) rfl dX0_fitsSights_24 ?_
      refine lv_iload_n hx hb dX0_fitsSights_27 rfl (lv_at hl 1 rfl) ?_
      refine va_iald (f := (oc.2 10)) hx hb hK hP 4 0 rfl rfl (vp_in_nI (Nat.lt_of_lt_of_le hk1 (by decide)) (by decide)) dX0_fitsSights_28 ?_
      refine W_itei (P := ((oc.2 10) (nI k1).toNatClampNeg) = 0) (a := (if p0 = ((oc.2 11) (nI k1).toNatClampNeg) then (1 : Int32) else 0)) (b := (if (fX4_hasBit p0 ((oc.2 11) (nI k1).toNatClampNeg)) = (if ((oc.2 10) (nI k1).toNatClampNeg) = 1 then (1 : Int32) else 0) then (1 : Int32) else 0)) (J := 73) (ls9 := ls) (rest9 := []) (fun ja5 jb5 => ?_) ?_
      · refine lv_if_ne (tgt := 45) hx hb dX0_fitsSights_29 (by decide) (fun c4 => ?_) (fun c4 => ?_)
        · skip
          refine lv_iload_n hx hb dX0_fitsSights_45 rfl (lv_at hl 3 rfl) ?_
          refine lv_iload_n hx hb dX0_fitsSights_46 rfl (lv_at hl 0 rfl) ?_
          refine rcNi (As := [.int p0, .int ((oc.2 11) (nI k1).toNatClampNeg)]) (rest := []) hSF (kX4_hasBit l D cI cZ cC p0 ((oc.2 11) (nI k1).toNatClampNeg)) (va_cnB 2 hts gX0_fitsSights_X4_hasBit_n65 rfl rfl rfl (hN.1 (.methodLinkNest RX0 65 yX4_hasBit "UmbrellaVote") (by decide +kernel)) (hts (.initialized RX4) (by decide +kernel)) (by decide +kernel) ⟨Nat.le_of_ble_eq_true rfl, Nat.le_of_ble_eq_true rfl⟩) (hts (.static yX4_hasBit) (by decide +kernel)) (hP.sub [] rfl) hK hN rfl rfl hl.1 (Nat.le_of_ble_eq_true rfl) dX0_fitsSights_47 ⟨Nat.zero_le _, Nat.zero_le _⟩ ?_
          refine lv_aload_n hx hb dX0_fitsSights_50 rfl (lv_at hl 2 rfl) ?_
          refine va_get (D := D) (ci := 0) (v := .ref (ac 10)) (C := RX0) (T := TX0) (N := 12) hx hb hts hi0 hown hK hP 0 rfl rfl 10 (by decide) hf28 (fun _ h9 => h9) rfl dX0_fitsSights_51 ?_
          refine lv_iload_n hx hb dX0_fitsSights_54 rfl (lv_at hl 1 rfl) ?_
          refine va_iald (f := (oc.2 10)) hx hb hK hP 4 0 rfl rfl (vp_in_nI (Nat.lt_of_lt_of_le hk1 (by decide)) (by decide)) dX0_fitsSights_55 ?_
          refine lv_iconst (v := 1) hx hb dX0_fitsSights_56 (by decide) ?_
          refine W_itei (P := ((oc.2 10) (nI k1).toNatClampNeg) = 1) (a := 1) (b := 0) (J := 65) (ls9 := ls) (rest9 := [.int (fX4_hasBit p0 ((oc.2 11) (nI k1).toNatClampNeg))]) (fun ja7 jb7 => ?_) ?_
          · refine lv_icmp_ne (tgt := 64) hx hb dX0_fitsSights_57 (by decide) (fun c6 => ?_) (fun c6 => ?_)
            · skip
              refine lv_iconst (v := 0) hx hb dX0_fitsSights_64 (by decide) ?_
              exact jb7 c6
            · skip
              refine lv_iconst (v := 1) hx hb dX0_fitsSights_60 (by decide) ?_
              refine lv_goto (tgt := 65) hx hb dX0_fitsSights_61 (by decide) ?_
              exact ja7 c6
          refine W_itei (P := (fX4_hasBit p0 ((oc.2 11) (nI k1).toNatClampNeg)) = (if ((oc.2 10) (nI k1).toNatClampNeg) = 1 then (1 : Int32) else 0)) (a := 1) (b := 0) (J := 73) (ls9 := ls) (rest9 := []) (fun ja9 jb9 => ?_) ?_
          · refine lv_icmp_ne (tgt := 72) hx hb dX0_fitsSights_65 (by decide) (fun c8 => ?_) (fun c8 => ?_)
            · skip
              refine lv_iconst (v := 0) hx hb dX0_fitsSights_72 (by decide) ?_
              exact jb9 c8
            · skip
              refine lv_iconst (v := 1) hx hb dX0_fitsSights_68 (by decide) ?_
              refine lv_goto (tgt := 73) hx hb dX0_fitsSights_69 (by decide) ?_
              exact ja9 c8
          exact jb5 c4
        · skip
          refine lv_iload_n hx hb dX0_fitsSights_32 rfl (lv_at hl 3 rfl) ?_
          refine lv_iload_n hx hb dX0_fitsSights_33 rfl (lv_at hl 0 rfl) ?_
          refine W_itei (P := p0 = ((oc.2 11) (nI k1).toNatClampNeg)) (a := 1) (b := 0) (J := 73) (ls9 := ls) (rest9 := []) (fun ja11 jb11 => ?_) ?_
          · refine lv_icmp_ne (tgt := 41) hx hb dX0_fitsSights_34 (by decide) (fun c10 => ?_) (fun c10 => ?_)
            · skip
              refine lv_iconst (v := 0) hx hb dX0_fitsSights_41 (by decide) ?_
              refine lv_goto (tgt := 73) hx hb dX0_fitsSights_42 (by decide) ?_
              exact jb11 c10
            · skip
              refine lv_iconst (v := 1) hx hb dX0_fitsSights_37 (by decide) ?_
              refine lv_goto (tgt := 73) hx hb dX0_fitsSights_38 (by decide) ?_
              exact ja11 c10
          exact ja5 c4
      refine lv_topi (fun x12 ex12 => ?_)
      refine lv_istore (lv' := [(4, .int x12), (3, .int ((oc.2 11) (nI k1).toNatClampNeg)), (2, .int (nI k1)), (0, .ref hc), (1, .int p0)]) hx hb dX0_fitsSights_73 hl (by decide) rfl (fun ls hl => ?_)
      refine lv_iload hx hb dX0_fitsSights_75 (lv_at hl 0 rfl) ?_
      refine lv_if_ne (tgt := 82) hx hb dX0_fitsSights_77 (by decide) (fun c13 => ?_) (fun c13 => ?_)
      · skip
        refine lv_iinc (v := ((nI k1) + 1)) (lv' := [(2, .int ((nI k1) + 1)), (4, .int x12), (3, .int ((oc.2 11) (nI k1).toNatClampNeg)), (0, .ref hc), (1, .int p0)]) hx hb dX0_fitsSights_82 hl (k := 2) rfl rfl (by decide) rfl (fun ls hl => ?_)
        refine lv_goto (tgt := 2) hx hb dX0_fitsSights_85 (by decide) ?_
        have hl9 : lv_has ls 5 [(2, .int (nI (k1 + 1))), (0, .ref hc), (1, .int p0)] := by
          rw [nI_succ]; exact lv_sub hl [0, 3, 4] rfl
        have e8 : fX0_fitsSights_L2 oc p0 r1 (k1 + 1) = fX0_fitsSights_L2 oc p0 (6) 0 := by
          rw [← hG1]
          subst ex12
          simp only [fX0_fitsSights_L2, if_neg c2, if_neg c13]
        exact ih1 () ls ⟨hl9, e8⟩
      · skip
        refine lv_iconst (v := 0) hx hb dX0_fitsSights_80 (by decide) ?_
        have e9 : fX0_fitsSights oc p0 = 0 := by
          subst ex12
          refine Eq.trans (b := fX0_fitsSights_L2 oc p0 (6) 0) ?_ ?_
          · rfl
          · rw [← hG1]; simp only [fX0_fitsSights_L2, if_neg c2, if_pos c13]
        exact W.zret hx hb hr (nar_z (Or.inl rfl)) (fun t ht hW => ⟨_, rfl, e9.symm, ht⟩) (fun _ h9 => absurd h9 List.not_mem_nil) dX0_fitsSights_81
  intro k1 y1 ls hB1 hI9
  obtain ⟨hl, hG1⟩ := hI9
  have hG1 : fX0_fitsSights_L2 oc p0 0 k1  = fX0_fitsSights_L2 oc p0 (6) 0 := hG1
  have hl : lv_has ls 5 [(2, .int (nI k1)), (0, .ref hc), (1, .int p0)] := hl
  refine lv_iload_n hx hb dX0_fitsSights_2 rfl (lv_at hl 0 rfl) ?_
  refine lv_aload_n hx hb dX0_fitsSights_3 rfl (lv_at hl 1 rfl) ?_
  refine va_get (D := D) (ci := 0) (v := .int (oc.1 6)) (C := RX0) (T := TX0) (N := 12) hx hb hts hi0 hown hK hP 0 rfl rfl 6 (by decide) hf52 (fun _ h9 => h9) rfl dX0_fitsSights_4 ?_
  refine lv_icmp_ge (tgt := 88) hx hb dX0_fitsSights_7 (by decide) (fun c14 => ?_) (fun c14 => ?_)
  · skip
    refine lv_iconst (v := 1) hx hb dX0_fitsSights_88 (by decide) ?_
    have e9 : fX0_fitsSights oc p0 = 1 := by
      refine Eq.trans (b := fX0_fitsSights_L2 oc p0 (6) 0) ?_ ?_
      · rfl
      · rw [← hG1]; simp only [fX0_fitsSights_L2, if_pos c14]
    exact W.zret hx hb hr (nar_z (Or.inr rfl)) (fun t ht hW => ⟨_, rfl, e9.symm, ht⟩) (fun _ h9 => absurd h9 List.not_mem_nil) dX0_fitsSights_89
  · skip
    refine lv_iload_n hx hb dX0_fitsSights_10 rfl (lv_at hl 0 rfl) ?_
    refine lv_bipush (v := 6) hx hb dX0_fitsSights_11 (by decide) ?_
    refine lv_icmp_ge (tgt := 88) hx hb dX0_fitsSights_13 (by decide) (fun c15 => ?_) (fun c15 => absurd (by rw [hB1]; exact nI_le (Nat.le_refl _) (by decide)) c15)
    refine lv_iconst (v := 1) hx hb dX0_fitsSights_88 (by decide) ?_
    have e9 : fX0_fitsSights oc p0 = 1 := by
      refine Eq.trans (b := fX0_fitsSights_L2 oc p0 (6) 0) ?_ ?_
      · rfl
      · rw [← hG1]; simp only [fX0_fitsSights_L2, if_neg c14]
    exact W.zret hx hb hr (nar_z (Or.inr rfl)) (fun t ht hW => ⟨_, rfl, e9.symm, ht⟩) (fun _ h9 => absurd h9 List.not_mem_nil) dX0_fitsSights_89

set_option maxHeartbeats 4000000 in
set_option maxRecDepth 100000 in
theorem kX0_put (l : Launch) (D : va_G) (cI cZ cC : ClassId) (hc : Nat) (ac : Nat → Nat) (oc : OV) (p0 : Int32) (p1 : Int32) (p2 : Int32)  {sz : Nat} : Met l yX0_put wsX0_put ({ frames := 1, cells := 0, slots := 0, locals := 22 }) (pW D (tyv cI cZ cC) (wX0 cI hc ac oc) sz [.ref hc, .int p0, .int p1, .int p2]) (va_Qv (fun (u : OV) => u = fX0_put oc p0 p1 p2) (qW D (fun (u : OV) => wX0 cI hc ac u) (va_A (wX0 cI hc ac oc) sz)) (va_A (wX0 cI hc ac oc) sz)) 0 0 (va_A (wX0 cI hc ac oc) sz) := by
  refine Met.ofW (cc := cX0_put) (maxL := 4) (ret := none) (by decide) rfl ?_
  intro p e s m args below meth c s₁ B hml hv
  obtain ⟨rfl, hsz, hP, hK, hN, hD0⟩ := hv
  have hx := B.exec
  have hb := B.bytes
  have hr := B.returns
  have hts := atoms_spec (ws := wsX0_put) B.pre
  have hown : s.vm.findClass RX0 = some m.cls := findClass_of_methodNamed B.named
  have hlocks := B.notSynchronized
  subst hsz
  have hD := hD0.self (sz := s.heap.size)
  generalize hAe : va_A (wX0 cI hc ac oc) s.heap.size = A at hD ⊢
  have hA : ∀ q : Nat, s.heap.size ≤ q → A q := fun q h => by rw [← hAe]; exact Or.inr h
  have hS : va_S A s.heap s.heap [] := va_S.rf
  have hP : va_P D vwCl (wX0 cI hc ac oc) s.heap := hP
  have hl := lv_entry ([.ref hc, .int p0, .int p1, .int p2]) (n := 4) (Nat.le_of_ble_eq_true rfl)
  rw [lg_entry_eq]
  generalize (lg_sl ([.ref hc, .int p0, .int p1, .int p2]) ++ List.replicate (4 - (lg_sl ([.ref hc, .int p0, .int p1, .int p2])).length) Slot.unset).toArray = ls at hl ⊢
  have hl : lv_has ls 4 [(0, .ref hc), (1, .int p0), (2, .int p1), (3, .int p2)] := hl
  have hSF : CallFix p m c cX0_put 4 s _ wsX0_put RX0 := ⟨hx, hb, hml, hown, hts⟩
  have hi0 : ∀ w ∈ wsX00, w ∈ wsX0_put := by decide +kernel
  have hf18 : (Cond.fieldLink RX0 18 "UmbrellaVote$City" "places" "[I").before _ s = true := hts _ (by decide +kernel)
  have hf22 : (Cond.fieldLink RX0 22 "UmbrellaVote$City" "slows" "[I").before _ s = true := hts _ (by decide +kernel)
  refine lv_iload_n hx hb dX0_put_0 rfl (lv_at hl 1 rfl) ?_
  refine lv_iconst (v := 0) hx hb dX0_put_1 (by decide) ?_
  refine lv_iconst (v := 5) hx hb dX0_put_2 (by decide) ?_
  refine rcNi (As := [.int p0, .int 0, .int 5]) (rest := []) hSF (kX4_within l D cI cZ cC p0 0 5) (va_cnB 3 hts gX0_put_X4_within_n61 rfl rfl rfl (hN.1 (.methodLinkNest RX0 61 yX4_within "UmbrellaVote") (by decide +kernel)) (hts (.initialized RX4) (by decide +kernel)) (by decide +kernel) ⟨Nat.le_of_ble_eq_true rfl, Nat.le_of_ble_eq_true rfl⟩) (hts (.static yX4_within) (by decide +kernel)) (hP.sub [] rfl) hK hN rfl rfl hl.1 (Nat.le_of_ble_eq_true rfl) dX0_put_3 ⟨Nat.zero_le _, Nat.zero_le _⟩ ?_
  refine lv_if_eq (tgt := 23) hx hb dX0_put_6 (by decide) (fun c1 => ?_) (fun c1 => ?_)
  · skip
    have e9 : fX0_put oc p0 p1 p2 = oc := by
      simp only [fX0_put, if_pos c1]
    exact W.vret hx hb hr (fun t ht hW => ⟨⟨oc, rfl, e9.symm, ⟨by rw [ht]; exact hP, hD⟩⟩, hS.F ht⟩) hS.2.2 dX0_put_23
  · skip
    refine lv_aload_n hx hb dX0_put_9 rfl (lv_at hl 0 rfl) ?_
    refine va_get (D := D) (ci := 0) (v := .ref (ac 7)) (C := RX0) (T := TX0) (N := 12) hx hb hts hi0 hown hK hP 0 rfl rfl 7 (by decide) hf18 (fun _ h9 => h9) rfl dX0_put_10 ?_
    refine lv_iload_n hx hb dX0_put_13 rfl (lv_at hl 1 rfl) ?_
    refine lv_iload_n hx hb dX0_put_14 rfl (lv_at hl 2 rfl) ?_
    refine va_iast hx hb hK hP hD hS 1 0 rfl rfl (wi6 (by with_reducible assumption)) dX0_put_15 (fun H locs hP hD hS => ?_)
    have hP : va_P D vwCl (wX0 cI hc ac (ua oc 7 p0.toNatClampNeg p1)) H := hP
    have hD : va_D A (wX0 cI hc ac (ua oc 7 p0.toNatClampNeg p1)) := hD
    refine lv_aload_n hx hb dX0_put_16 rfl (lv_at hl 0 rfl) ?_
    refine va_get (D := D) (ci := 0) (v := .ref (ac 8)) (C := RX0) (T := TX0) (N := 12) hx hb hts hi0 hown hK hP 0 rfl rfl 8 (by decide) hf22 (fun _ h9 => h9) rfl dX0_put_17 ?_
    refine lv_iload_n hx hb dX0_put_20 rfl (lv_at hl 1 rfl) ?_
    refine lv_iload_n hx hb dX0_put_21 rfl (lv_at hl 3 rfl) ?_
    refine va_iast hx hb hK hP hD hS 2 0 rfl rfl (wi6 (by with_reducible assumption)) dX0_put_22 (fun H locs hP hD hS => ?_)
    rw [sw_c_c_a8] at hP hD
    have hP : va_P D vwCl (wX0 cI hc ac (ua (ua oc 7 p0.toNatClampNeg p1) 8 p0.toNatClampNeg p2)) H := hP
    have hD : va_D A (wX0 cI hc ac (ua (ua oc 7 p0.toNatClampNeg p1) 8 p0.toNatClampNeg p2)) := hD
    have e9 : fX0_put oc p0 p1 p2 = (ua (ua oc 7 p0.toNatClampNeg p1) 8 p0.toNatClampNeg p2) := by
      simp only [fX0_put, if_neg c1]
    exact W.vret hx hb hr (fun t ht hW => ⟨⟨(ua (ua oc 7 p0.toNatClampNeg p1) 8 p0.toNatClampNeg p2), rfl, e9.symm, ⟨by rw [ht]; exact hP, hD⟩⟩, hS.F ht⟩) hS.2.2 dX0_put_23

set_option maxHeartbeats 4000000 in
set_option maxRecDepth 100000 in
theorem kX0_addSight (l : Launch) (D : va_G) (cI cZ cC : ClassId) (hc : Nat) (ac : Nat → Nat) (oc : OV) (p0 : Int32) (p1 : Int32)  {sz : Nat} : Met l yX0_addSight wsX0_addSight ({ frames := 1, cells := 0, slots := 0, locals := 22 }) (pW D (tyv cI cZ cC) (wX0 cI hc ac oc) sz [.ref hc, .int p0, .int p1]) (va_Qi (fun r (u : OV) => r = (fX0_addSight oc p0 p1).1 ∧ u = (fX0_addSight oc p0 p1).2) (qW D (fun (u : OV) => wX0 cI hc ac u) (va_A (wX0 cI hc ac oc) sz)) (va_A (wX0 cI hc ac oc) sz)) 0 0 (va_A (wX0 cI hc ac oc) sz) := by
  refine Met.ofW (cc := cX0_addSight) (maxL := 3) (ret := (some .boolean)) (by decide) rfl ?_
  intro p e s m args below meth c s₁ B hml hv
  obtain ⟨rfl, hsz, hP, hK, hN, hD0⟩ := hv
  have hx := B.exec
  have hb := B.bytes
  have hr := B.returns
  have hts := atoms_spec (ws := wsX0_addSight) B.pre
  have hown : s.vm.findClass RX0 = some m.cls := findClass_of_methodNamed B.named
  have hlocks := B.notSynchronized
  subst hsz
  have hD := hD0.self (sz := s.heap.size)
  generalize hAe : va_A (wX0 cI hc ac oc) s.heap.size = A at hD ⊢
  have hA : ∀ q : Nat, s.heap.size ≤ q → A q := fun q h => by rw [← hAe]; exact Or.inr h
  have hS : va_S A s.heap s.heap [] := va_S.rf
  have hP : va_P D vwCl (wX0 cI hc ac oc) s.heap := hP
  have hl := lv_entry ([.ref hc, .int p0, .int p1]) (n := 3) (Nat.le_of_ble_eq_true rfl)
  rw [lg_entry_eq]
  generalize (lg_sl ([.ref hc, .int p0, .int p1]) ++ List.replicate (3 - (lg_sl ([.ref hc, .int p0, .int p1])).length) Slot.unset).toArray = ls at hl ⊢
  have hl : lv_has ls 3 [(0, .ref hc), (1, .int p0), (2, .int p1)] := hl
  have hSF : CallFix p m c cX0_addSight 3 s _ wsX0_addSight RX0 := ⟨hx, hb, hml, hown, hts⟩
  have hi0 : ∀ w ∈ wsX00, w ∈ wsX0_addSight := by decide +kernel
  have hf52 : (Cond.fieldLink RX0 52 "UmbrellaVote$City" "sights" "I").before _ s = true := hts _ (by decide +kernel)
  have hf28 : (Cond.fieldLink RX0 28 "UmbrellaVote$City" "sightHows" "[I").before _ s = true := hts _ (by decide +kernel)
  have hf31 : (Cond.fieldLink RX0 31 "UmbrellaVote$City" "sightOfs" "[I").before _ s = true := hts _ (by decide +kernel)
  refine lv_aload_n hx hb dX0_addSight_0 rfl (lv_at hl 0 rfl) ?_
  refine va_get (D := D) (ci := 0) (v := .int (oc.1 6)) (C := RX0) (T := TX0) (N := 12) hx hb hts hi0 hown hK hP 0 rfl rfl 6 (by decide) hf52 (fun _ h9 => h9) rfl dX0_addSight_1 ?_
  refine lv_iconst (v := 0) hx hb dX0_addSight_4 (by decide) ?_
  refine lv_iconst (v := 5) hx hb dX0_addSight_5 (by decide) ?_
  refine rcNi (As := [.int (oc.1 6), .int 0, .int 5]) (rest := []) hSF (kX4_within l D cI cZ cC (oc.1 6) 0 5) (va_cnB 3 hts gX0_addSight_X4_within_n61 rfl rfl rfl (hN.1 (.methodLinkNest RX0 61 yX4_within "UmbrellaVote") (by decide +kernel)) (hts (.initialized RX4) (by decide +kernel)) (by decide +kernel) ⟨Nat.le_of_ble_eq_true rfl, Nat.le_of_ble_eq_true rfl⟩) (hts (.static yX4_within) (by decide +kernel)) (hP.sub [] rfl) hK hN rfl rfl hl.1 (Nat.le_of_ble_eq_true rfl) dX0_addSight_6 ⟨Nat.zero_le _, Nat.zero_le _⟩ ?_
  refine lv_if_ne (tgt := 14) hx hb dX0_addSight_9 (by decide) (fun c1 => ?_) (fun c1 => ?_)
  · skip
    refine lv_aload_n hx hb dX0_addSight_14 rfl (lv_at hl 0 rfl) ?_
    refine va_get (D := D) (ci := 0) (v := .ref (ac 10)) (C := RX0) (T := TX0) (N := 12) hx hb hts hi0 hown hK hP 0 rfl rfl 10 (by decide) hf28 (fun _ h9 => h9) rfl dX0_addSight_15 ?_
    refine lv_aload_n hx hb dX0_addSight_18 rfl (lv_at hl 0 rfl) ?_
    refine va_get (D := D) (ci := 0) (v := .int (oc.1 6)) (C := RX0) (T := TX0) (N := 12) hx hb hts hi0 hown hK hP 0 rfl rfl 6 (by decide) hf52 (fun _ h9 => h9) rfl dX0_addSight_19 ?_
    refine lv_iload_n hx hb dX0_addSight_22 rfl (lv_at hl 1 rfl) ?_
    refine va_iast hx hb hK hP hD hS 4 0 rfl rfl (wi6 (by with_reducible assumption)) dX0_addSight_23 (fun H locs hP hD hS => ?_)
    have hP : va_P D vwCl (wX0 cI hc ac (ua oc 10 (oc.1 6).toNatClampNeg p0)) H := hP
    have hD : va_D A (wX0 cI hc ac (ua oc 10 (oc.1 6).toNatClampNeg p0)) := hD
    refine lv_aload_n hx hb dX0_addSight_24 rfl (lv_at hl 0 rfl) ?_
    refine va_get (D := D) (ci := 0) (v := .ref (ac 11)) (C := RX0) (T := TX0) (N := 12) hx hb hts hi0 hown hK hP 0 rfl rfl 11 (by decide) hf31 (fun _ h9 => h9) rfl dX0_addSight_25 ?_
    refine lv_aload_n hx hb dX0_addSight_28 rfl (lv_at hl 0 rfl) ?_
    refine va_get (D := D) (ci := 0) (v := .int (oc.1 6)) (C := RX0) (T := TX0) (N := 12) hx hb hts hi0 hown hK hP 0 rfl rfl 6 (by decide) hf52 (fun _ h9 => h9) rfl dX0_addSight_29 ?_
    refine lv_iload_n hx hb dX0_addSight_32 rfl (lv_at hl 2 rfl) ?_
    refine va_iast hx hb hK hP hD hS 5 0 rfl rfl (wi6 (by with_reducible assumption)) dX0_addSight_33 (fun H locs hP hD hS => ?_)
    rw [sw_c_c_a11] at hP hD
    have hP : va_P D vwCl (wX0 cI hc ac (ua (ua oc 10 (oc.1 6).toNatClampNeg p0) 11 (oc.1 6).toNatClampNeg p1)) H := hP
    have hD : va_D A (wX0 cI hc ac (ua (ua oc 10 (oc.1 6).toNatClampNeg p0) 11 (oc.1 6).toNatClampNeg p1)) := hD
    refine lv_aload_n hx hb dX0_addSight_34 rfl (lv_at hl 0 rfl) ?_
    refine lv_dup hx hb dX0_addSight_35 rfl ?_
    refine va_get (D := D) (ci := 0) (v := .int (oc.1 6)) (C := RX0) (T := TX0) (N := 12) hx hb hts hi0 hown hK hP 0 rfl rfl 6 (by decide) hf52 (fun _ h9 => h9) rfl dX0_addSight_36 ?_
    refine lv_iconst (v := 1) hx hb dX0_addSight_39 (by decide) ?_
    refine lv_iadd hx hb dX0_addSight_40 ?_
    refine va_put (D := D) (ci := 0) (v := .int ((oc.1 6) + 1)) (ty := .int) (C := RX0) (T := TX0) (N := 12) hx hb hts hi0 tyX0 tyX0_ok nmX0 hown hK hP hD hS 0 rfl rfl 6 (by decide) hf52 (fun _ h9 => h9) rfl (by decide +kernel) rfl rfl (Nat.le_of_ble_eq_true rfl) dX0_addSight_41 (fun H locs hP hD hS => ?_)
    rw [sw_c_c_s6] at hP hD
    have hP : va_P D vwCl (wX0 cI hc ac (us (ua (ua oc 10 (oc.1 6).toNatClampNeg p0) 11 (oc.1 6).toNatClampNeg p1) 6 ((oc.1 6) + 1))) H := hP
    have hD : va_D A (wX0 cI hc ac (us (ua (ua oc 10 (oc.1 6).toNatClampNeg p0) 11 (oc.1 6).toNatClampNeg p1) 6 ((oc.1 6) + 1))) := hD
    refine lv_iconst (v := 1) hx hb dX0_addSight_44 (by decide) ?_
    have e9 : fX0_addSight oc p0 p1 = ((1 : Int32), (us (ua (ua oc 10 (oc.1 6).toNatClampNeg p0) 11 (oc.1 6).toNatClampNeg p1) 6 ((oc.1 6) + 1))) := by
      simp only [fX0_addSight, if_neg c1]
    exact W.zret hx hb hr (nar_z (Or.inr rfl)) (fun t ht hW => ⟨⟨_, (us (ua (ua oc 10 (oc.1 6).toNatClampNeg p0) 11 (oc.1 6).toNatClampNeg p1) 6 ((oc.1 6) + 1)), rfl, ⟨by rw [e9], by rw [e9]⟩, ⟨by rw [ht]; exact hP, hD⟩⟩, hS.F ht⟩) hS.2.2 dX0_addSight_45
  · skip
    refine lv_iconst (v := 0) hx hb dX0_addSight_12 (by decide) ?_
    have e9 : fX0_addSight oc p0 p1 = ((0 : Int32), oc) := by
      simp only [fX0_addSight, if_pos c1]
    exact W.zret hx hb hr (nar_z (Or.inl rfl)) (fun t ht hW => ⟨⟨_, oc, rfl, ⟨by rw [e9], by rw [e9]⟩, ⟨by rw [ht]; exact hP, hD⟩⟩, hS.F ht⟩) hS.2.2 dX0_addSight_13

set_option maxHeartbeats 4000000 in
set_option maxRecDepth 100000 in
theorem kX0_copyFrom (l : Launch) (D : va_G) (cI cZ cC : ClassId) (hu : Nat) (au : Nat → Nat) (ou : OV) (hc : Nat) (ac : Nat → Nat) (oc : OV)   {sz : Nat} : Met l yX0_copyFrom wsX0_copyFrom ({ frames := 1, cells := 0, slots := 0, locals := 60 }) (pW D (tyv cI cZ cC) (wX0 cI hu au ou ++ wX0 cI hc ac oc) sz [.ref hu, .ref hc]) (va_Qv (fun (u : OV) => u = fX0_copyFrom ou oc) (qW D (fun (u : OV) => wX0 cI hu au u ++ wX0 cI hc ac oc) (va_A (wX0 cI hu au ou ++ wX0 cI hc ac oc) sz)) (va_A (wX0 cI hu au ou ++ wX0 cI hc ac oc) sz)) 0 0 (va_A (wX0 cI hu au ou ++ wX0 cI hc ac oc) sz) := by
  refine Met.ofW (cc := cX0_copyFrom) (maxL := 2) (ret := none) (by decide) rfl ?_
  intro p e s m args below meth c s₁ B hml hv
  obtain ⟨rfl, hsz, hP, hK, hN, hD0⟩ := hv
  have hx := B.exec
  have hb := B.bytes
  have hr := B.returns
  have hts := atoms_spec (ws := wsX0_copyFrom) B.pre
  have hown : s.vm.findClass RX0 = some m.cls := findClass_of_methodNamed B.named
  have hlocks := B.notSynchronized
  subst hsz
  have hD := hD0.self (sz := s.heap.size)
  generalize hAe : va_A (wX0 cI hu au ou ++ wX0 cI hc ac oc) s.heap.size = A at hD ⊢
  have hA : ∀ q : Nat, s.heap.size ≤ q → A q := fun q h => by rw [← hAe]; exact Or.inr h
  have hS : va_S A s.heap s.heap [] := va_S.rf
  have hP : va_P D vwCl (wX0 cI hu au ou ++ wX0 cI hc ac oc) s.heap := hP
  have hl := lv_entry ([.ref hu, .ref hc]) (n := 2) (Nat.le_of_ble_eq_true rfl)
  rw [lg_entry_eq]
  generalize (lg_sl ([.ref hu, .ref hc]) ++ List.replicate (2 - (lg_sl ([.ref hu, .ref hc])).length) Slot.unset).toArray = ls at hl ⊢
  have hl : lv_has ls 2 [(0, .ref hu), (1, .ref hc)] := hl
  have hSF : CallFix p m c cX0_copyFrom 2 s _ wsX0_copyFrom RX0 := ⟨hx, hb, hml, hown, hts⟩
  have hi0 : ∀ w ∈ wsX00, w ∈ wsX0_copyFrom := by decide +kernel
  have hf9 : (Cond.fieldLink RX0 9 "UmbrellaVote$City" "spread" "I").before _ s = true := hts _ (by decide +kernel)
  have hf15 : (Cond.fieldLink RX0 15 "UmbrellaVote$City" "shade" "I").before _ s = true := hts _ (by decide +kernel)
  have hf40 : (Cond.fieldLink RX0 40 "UmbrellaVote$City" "there" "I").before _ s = true := hts _ (by decide +kernel)
  have hf43 : (Cond.fieldLink RX0 43 "UmbrellaVote$City" "holes" "I").before _ s = true := hts _ (by decide +kernel)
  have hf46 : (Cond.fieldLink RX0 46 "UmbrellaVote$City" "cotton" "I").before _ s = true := hts _ (by decide +kernel)
  have hf49 : (Cond.fieldLink RX0 49 "UmbrellaVote$City" "tables" "I").before _ s = true := hts _ (by decide +kernel)
  have hf52 : (Cond.fieldLink RX0 52 "UmbrellaVote$City" "sights" "I").before _ s = true := hts _ (by decide +kernel)
  have hf18 : (Cond.fieldLink RX0 18 "UmbrellaVote$City" "places" "[I").before _ s = true := hts _ (by decide +kernel)
  have hf22 : (Cond.fieldLink RX0 22 "UmbrellaVote$City" "slows" "[I").before _ s = true := hts _ (by decide +kernel)
  have hf25 : (Cond.fieldLink RX0 25 "UmbrellaVote$City" "weights" "[I").before _ s = true := hts _ (by decide +kernel)
  have hf28 : (Cond.fieldLink RX0 28 "UmbrellaVote$City" "sightHows" "[I").before _ s = true := hts _ (by decide +kernel)
  have hf31 : (Cond.fieldLink RX0 31 "UmbrellaVote$City" "sightOfs" "[I").before _ s = true := hts _ (by decide +kernel)
  refine lv_aload_n hx hb dX0_copyFrom_0 rfl (lv_at hl 0 rfl) ?_
  refine lv_aload_n hx hb dX0_copyFrom_1 rfl (lv_at hl 1 rfl) ?_
  refine va_get (D := D) (ci := 0) (v := .int (oc.1 0)) (C := RX0) (T := TX0) (N := 12) hx hb hts hi0 hown hK hP 6 rfl rfl 0 (by decide) hf9 (fun _ h9 => h9) rfl dX0_copyFrom_2 ?_
  refine va_put (D := D) (ci := 0) (v := .int (oc.1 0)) (ty := .int) (C := RX0) (T := TX0) (N := 12) hx hb hts hi0 tyX0 tyX0_ok nmX0 hown hK hP hD hS 0 rfl rfl 0 (by decide) hf9 (fun _ h9 => h9) rfl (by decide +kernel) rfl rfl (Nat.le_of_ble_eq_true rfl) dX0_copyFrom_5 (fun H locs hP hD hS => ?_)
  have hP : va_P D vwCl (wX0 cI hu au (us ou 0 (oc.1 0)) ++ wX0 cI hc ac oc) H := hP
  have hD : va_D A (wX0 cI hu au (us ou 0 (oc.1 0)) ++ wX0 cI hc ac oc) := hD
  refine lv_aload_n hx hb dX0_copyFrom_8 rfl (lv_at hl 0 rfl) ?_
  refine lv_aload_n hx hb dX0_copyFrom_9 rfl (lv_at hl 1 rfl) ?_
  refine va_get (D := D) (ci := 0) (v := .int (oc.1 1)) (C := RX0) (T := TX0) (N := 12) hx hb hts hi0 hown hK hP 6 rfl rfl 1 (by decide) hf15 (fun _ h9 => h9) rfl dX0_copyFrom_10 ?_
  refine va_put (D := D) (ci := 0) (v := .int (oc.1 1)) (ty := .int) (C := RX0) (T := TX0) (N := 12) hx hb hts hi0 tyX0 tyX0_ok nmX0 hown hK hP hD hS 0 rfl rfl 1 (by decide) hf15 (fun _ h9 => h9) rfl (by decide +kernel) rfl rfl (Nat.le_of_ble_eq_true rfl) dX0_copyFrom_13 (fun H locs hP hD hS => ?_)
  rw [sw_uc_u_s1] at hP hD
  have hP : va_P D vwCl (wX0 cI hu au (us (us ou 0 (oc.1 0)) 1 (oc.1 1)) ++ wX0 cI hc ac oc) H := hP
  have hD : va_D A (wX0 cI hu au (us (us ou 0 (oc.1 0)) 1 (oc.1 1)) ++ wX0 cI hc ac oc) := hD
  refine lv_aload_n hx hb dX0_copyFrom_16 rfl (lv_at hl 0 rfl) ?_
  refine lv_aload_n hx hb dX0_copyFrom_17 rfl (lv_at hl 1 rfl) ?_
  refine va_get (D := D) (ci := 0) (v := .int (oc.1 2)) (C := RX0) (T := TX0) (N := 12) hx hb hts hi0 hown hK hP 6 rfl rfl 2 (by decide) hf40 (fun _ h9 => h9) rfl dX0_copyFrom_18 ?_
  refine va_put (D := D) (ci := 0) (v := .int (oc.1 2)) (ty := .int) (C := RX0) (T := TX0) (N := 12) hx hb hts hi0 tyX0 tyX0_ok nmX0 hown hK hP hD hS 0 rfl rfl 2 (by decide) hf40 (fun _ h9 => h9) rfl (by decide +kernel) rfl rfl (Nat.le_of_ble_eq_true rfl) dX0_copyFrom_21 (fun H locs hP hD hS => ?_)
  rw [sw_uc_u_s2] at hP hD
  have hP : va_P D vwCl (wX0 cI hu au (us (us (us ou 0 (oc.1 0)) 1 (oc.1 1)) 2 (oc.1 2)) ++ wX0 cI hc ac oc) H := hP
  have hD : va_D A (wX0 cI hu au (us (us (us ou 0 (oc.1 0)) 1 (oc.1 1)) 2 (oc.1 2)) ++ wX0 cI hc ac oc) := hD
  refine lv_aload_n hx hb dX0_copyFrom_24 rfl (lv_at hl 0 rfl) ?_
  refine lv_aload_n hx hb dX0_copyFrom_25 rfl (lv_at hl 1 rfl) ?_
  refine va_get (D := D) (ci := 0) (v := .int (oc.1 3)) (C := RX0) (T := TX0) (N := 12) hx hb hts hi0 hown hK hP 6 rfl rfl 3 (by decide) hf43 (fun _ h9 => h9) rfl dX0_copyFrom_26 ?_
  refine va_put (D := D) (ci := 0) (v := .int (oc.1 3)) (ty := .int) (C := RX0) (T := TX0) (N := 12) hx hb hts hi0 tyX0 tyX0_ok nmX0 hown hK hP hD hS 0 rfl rfl 3 (by decide) hf43 (fun _ h9 => h9) rfl (by decide +kernel) rfl rfl (Nat.le_of_ble_eq_true rfl) dX0_copyFrom_29 (fun H locs hP hD hS => ?_)
  rw [sw_uc_u_s3] at hP hD
  have hP : va_P D vwCl (wX0 cI hu au (us (us (us (us ou 0 (oc.1 0)) 1 (oc.1 1)) 2 (oc.1 2)) 3 (oc.1 3)) ++ wX0 cI hc ac oc) H := hP
  have hD : va_D A (wX0 cI hu au (us (us (us (us ou 0 (oc.1 0)) 1 (oc.1 1)) 2 (oc.1 2)) 3 (oc.1 3)) ++ wX0 cI hc ac oc) := hD
  refine lv_aload_n hx hb dX0_copyFrom_32 rfl (lv_at hl 0 rfl) ?_
  refine lv_aload_n hx hb dX0_copyFrom_33 rfl (lv_at hl 1 rfl) ?_
  refine va_get (D := D) (ci := 0) (v := .int (oc.1 4)) (C := RX0) (T := TX0) (N := 12) hx hb hts hi0 hown hK hP 6 rfl rfl 4 (by decide) hf46 (fun _ h9 => h9) rfl dX0_copyFrom_34 ?_
  refine va_put (D := D) (ci := 0) (v := .int (oc.1 4)) (ty := .int) (C := RX0) (T := TX0) (N := 12) hx hb hts hi0 tyX0 tyX0_ok nmX0 hown hK hP hD hS 0 rfl rfl 4 (by decide) hf46 (fun _ h9 => h9) rfl (by decide +kernel) rfl rfl (Nat.le_of_ble_eq_true rfl) dX0_copyFrom_37 (fun H locs hP hD hS => ?_)
  rw [sw_uc_u_s4] at hP hD
  have hP : va_P D vwCl (wX0 cI hu au (us (us (us (us (us ou 0 (oc.1 0)) 1 (oc.1 1)) 2 (oc.1 2)) 3 (oc.1 3)) 4 (oc.1 4)) ++ wX0 cI hc ac oc) H := hP
  have hD : va_D A (wX0 cI hu au (us (us (us (us (us ou 0 (oc.1 0)) 1 (oc.1 1)) 2 (oc.1 2)) 3 (oc.1 3)) 4 (oc.1 4)) ++ wX0 cI hc ac oc) := hD
  refine lv_aload_n hx hb dX0_copyFrom_40 rfl (lv_at hl 0 rfl) ?_
  refine lv_aload_n hx hb dX0_copyFrom_41 rfl (lv_at hl 1 rfl) ?_
  refine va_get (D := D) (ci := 0) (v := .int (oc.1 5)) (C := RX0) (T := TX0) (N := 12) hx hb hts hi0 hown hK hP 6 rfl rfl 5 (by decide) hf49 (fun _ h9 => h9) rfl dX0_copyFrom_42 ?_
  refine va_put (D := D) (ci := 0) (v := .int (oc.1 5)) (ty := .int) (C := RX0) (T := TX0) (N := 12) hx hb hts hi0 tyX0 tyX0_ok nmX0 hown hK hP hD hS 0 rfl rfl 5 (by decide) hf49 (fun _ h9 => h9) rfl (by decide +kernel) rfl rfl (Nat.le_of_ble_eq_true rfl) dX0_copyFrom_45 (fun H locs hP hD hS => ?_)
  rw [sw_uc_u_s5] at hP hD
  have hP : va_P D vwCl (wX0 cI hu au (us (us (us (us (us (us ou 0 (oc.1 0)) 1 (oc.1 1)) 2 (oc.1 2)) 3 (oc.1 3)) 4 (oc.1 4)) 5 (oc.1 5)) ++ wX0 cI hc ac oc) H := hP
  have hD : va_D A (wX0 cI hu au (us (us (us (us (us (us ou 0 (oc.1 0)) 1 (oc.1 1)) 2 (oc.1 2)) 3 (oc.1 3)) 4 (oc.1 4)) 5 (oc.1 5)) ++ wX0 cI hc ac oc) := hD
  refine lv_aload_n hx hb dX0_copyFrom_48 rfl (lv_at hl 0 rfl) ?_
  refine lv_aload_n hx hb dX0_copyFrom_49 rfl (lv_at hl 1 rfl) ?_
  refine va_get (D := D) (ci := 0) (v := .int (oc.1 6)) (C := RX0) (T := TX0) (N := 12) hx hb hts hi0 hown hK hP 6 rfl rfl 6 (by decide) hf52 (fun _ h9 => h9) rfl dX0_copyFrom_50 ?_
  refine va_put (D := D) (ci := 0) (v := .int (oc.1 6)) (ty := .int) (C := RX0) (T := TX0) (N := 12) hx hb hts hi0 tyX0 tyX0_ok nmX0 hown hK hP hD hS 0 rfl rfl 6 (by decide) hf52 (fun _ h9 => h9) rfl (by decide +kernel) rfl rfl (Nat.le_of_ble_eq_true rfl) dX0_copyFrom_53 (fun H locs hP hD hS => ?_)
  rw [sw_uc_u_s6] at hP hD
  have hP : va_P D vwCl (wX0 cI hu au (us (us (us (us (us (us (us ou 0 (oc.1 0)) 1 (oc.1 1)) 2 (oc.1 2)) 3 (oc.1 3)) 4 (oc.1 4)) 5 (oc.1 5)) 6 (oc.1 6)) ++ wX0 cI hc ac oc) H := hP
  have hD : va_D A (wX0 cI hu au (us (us (us (us (us (us (us ou 0 (oc.1 0)) 1 (oc.1 1)) 2 (oc.1 2)) 3 (oc.1 3)) 4 (oc.1 4)) 5 (oc.1 5)) 6 (oc.1 6)) ++ wX0 cI hc ac oc) := hD
  refine lv_aload_n hx hb dX0_copyFrom_56 rfl (lv_at hl 1 rfl) ?_
  refine va_get (D := D) (ci := 0) (v := .ref (ac 7)) (C := RX0) (T := TX0) (N := 12) hx hb hts hi0 hown hK hP 6 rfl rfl 7 (by decide) hf18 (fun _ h9 => h9) rfl dX0_copyFrom_57 ?_
  refine lv_iconst (v := 0) hx hb dX0_copyFrom_60 (by decide) ?_
  refine lv_aload_n hx hb dX0_copyFrom_61 rfl (lv_at hl 0 rfl) ?_
  refine va_get (D := D) (ci := 0) (v := .ref (au 7)) (C := RX0) (T := TX0) (N := 12) hx hb hts hi0 hown hK hP 0 rfl rfl 7 (by decide) hf18 (fun _ h9 => h9) rfl dX0_copyFrom_62 ?_
  refine lv_iconst (v := 0) hx hb dX0_copyFrom_65 (by decide) ?_
  refine lv_bipush (v := 6) hx hb dX0_copyFrom_66 (by decide) ?_
  refine va_copyi (f := (oc.2 7)) (g := (ou.2 7)) hx hb (by rw [hml]; exact hl.1.symm) hown (hts (.methodLink RX0 55 arraycopyName) (by decide +kernel)) (hts (.native arraycopyName) (by decide +kernel)) (hts (.static arraycopyName) (by decide +kernel)) (hts (.initialized "java/lang/System") (by decide +kernel)) hK hP hD hS 7 1 0 0 rfl rfl rfl rfl rfl (by decide) (by decide) (by decide) (by decide) (by decide) (fun _ _ => rfl) (Nat.le_of_ble_eq_true rfl) (by decide) dX0_copyFrom_68 (fun H locs hP hD hS => ?_)
  have hP : va_P D vwCl (wX0 cI hu au (ub (us (us (us (us (us (us (us ou 0 (oc.1 0)) 1 (oc.1 1)) 2 (oc.1 2)) 3 (oc.1 3)) 4 (oc.1 4)) 5 (oc.1 5)) 6 (oc.1 6)) 7 (va_cpy (oc.2 7) (ou.2 7) (0 : Int32).toNatClampNeg (0 : Int32).toNatClampNeg (6 : Int32).toNatClampNeg)) ++ wX0 cI hc ac oc) H := hP
  have hD : va_D A (wX0 cI hu au (ub (us (us (us (us (us (us (us ou 0 (oc.1 0)) 1 (oc.1 1)) 2 (oc.1 2)) 3 (oc.1 3)) 4 (oc.1 4)) 5 (oc.1 5)) 6 (oc.1 6)) 7 (va_cpy (oc.2 7) (ou.2 7) (0 : Int32).toNatClampNeg (0 : Int32).toNatClampNeg (6 : Int32).toNatClampNeg)) ++ wX0 cI hc ac oc) := hD
  refine lv_aload_n hx hb dX0_copyFrom_71 rfl (lv_at hl 1 rfl) ?_
  refine va_get (D := D) (ci := 0) (v := .ref (ac 8)) (C := RX0) (T := TX0) (N := 12) hx hb hts hi0 hown hK hP 6 rfl rfl 8 (by decide) hf22 (fun _ h9 => h9) rfl dX0_copyFrom_72 ?_
  refine lv_iconst (v := 0) hx hb dX0_copyFrom_75 (by decide) ?_
  refine lv_aload_n hx hb dX0_copyFrom_76 rfl (lv_at hl 0 rfl) ?_
  refine va_get (D := D) (ci := 0) (v := .ref (au 8)) (C := RX0) (T := TX0) (N := 12) hx hb hts hi0 hown hK hP 0 rfl rfl 8 (by decide) hf22 (fun _ h9 => h9) rfl dX0_copyFrom_77 ?_
  refine lv_iconst (v := 0) hx hb dX0_copyFrom_80 (by decide) ?_
  refine lv_bipush (v := 6) hx hb dX0_copyFrom_81 (by decide) ?_
  refine va_copyi (f := (oc.2 8)) (g := (ou.2 8)) hx hb (by rw [hml]; exact hl.1.symm) hown (hts (.methodLink RX0 55 arraycopyName) (by decide +kernel)) (hts (.native arraycopyName) (by decide +kernel)) (hts (.static arraycopyName) (by decide +kernel)) (hts (.initialized "java/lang/System") (by decide +kernel)) hK hP hD hS 8 2 0 0 rfl rfl rfl rfl rfl (by decide) (by decide) (by decide) (by decide) (by decide) (fun _ _ => rfl) (Nat.le_of_ble_eq_true rfl) (by decide) dX0_copyFrom_83 (fun H locs hP hD hS => ?_)
  have hP : va_P D vwCl (wX0 cI hu au (ub (ub (us (us (us (us (us (us (us ou 0 (oc.1 0)) 1 (oc.1 1)) 2 (oc.1 2)) 3 (oc.1 3)) 4 (oc.1 4)) 5 (oc.1 5)) 6 (oc.1 6)) 7 (va_cpy (oc.2 7) (ou.2 7) (0 : Int32).toNatClampNeg (0 : Int32).toNatClampNeg (6 : Int32).toNatClampNeg)) 8 (va_cpy (oc.2 8) (ou.2 8) (0 : Int32).toNatClampNeg (0 : Int32).toNatClampNeg (6 : Int32).toNatClampNeg)) ++ wX0 cI hc ac oc) H := hP
  have hD : va_D A (wX0 cI hu au (ub (ub (us (us (us (us (us (us (us ou 0 (oc.1 0)) 1 (oc.1 1)) 2 (oc.1 2)) 3 (oc.1 3)) 4 (oc.1 4)) 5 (oc.1 5)) 6 (oc.1 6)) 7 (va_cpy (oc.2 7) (ou.2 7) (0 : Int32).toNatClampNeg (0 : Int32).toNatClampNeg (6 : Int32).toNatClampNeg)) 8 (va_cpy (oc.2 8) (ou.2 8) (0 : Int32).toNatClampNeg (0 : Int32).toNatClampNeg (6 : Int32).toNatClampNeg)) ++ wX0 cI hc ac oc) := hD
  refine lv_aload_n hx hb dX0_copyFrom_86 rfl (lv_at hl 1 rfl) ?_
  refine va_get (D := D) (ci := 0) (v := .ref (ac 9)) (C := RX0) (T := TX0) (N := 12) hx hb hts hi0 hown hK hP 6 rfl rfl 9 (by decide) hf25 (fun _ h9 => h9) rfl dX0_copyFrom_87 ?_
  refine lv_iconst (v := 0) hx hb dX0_copyFrom_90 (by decide) ?_
  refine lv_aload_n hx hb dX0_copyFrom_91 rfl (lv_at hl 0 rfl) ?_
  refine va_get (D := D) (ci := 0) (v := .ref (au 9)) (C := RX0) (T := TX0) (N := 12) hx hb hts hi0 hown hK hP 0 rfl rfl 9 (by decide) hf25 (fun _ h9 => h9) rfl dX0_copyFrom_92 ?_
  refine lv_iconst (v := 0) hx hb dX0_copyFrom_95 (by decide) ?_
  refine lv_bipush (v := 10) hx hb dX0_copyFrom_96 (by decide) ?_
  refine va_copyi (f := (oc.2 9)) (g := (ou.2 9)) hx hb (by rw [hml]; exact hl.1.symm) hown (hts (.methodLink RX0 55 arraycopyName) (by decide +kernel)) (hts (.native arraycopyName) (by decide +kernel)) (hts (.static arraycopyName) (by decide +kernel)) (hts (.initialized "java/lang/System") (by decide +kernel)) hK hP hD hS 9 3 0 0 rfl rfl rfl rfl rfl (by decide) (by decide) (by decide) (by decide) (by decide) (fun _ _ => rfl) (Nat.le_of_ble_eq_true rfl) (by decide) dX0_copyFrom_98 (fun H locs hP hD hS => ?_)
  have hP : va_P D vwCl (wX0 cI hu au (ub (ub (ub (us (us (us (us (us (us (us ou 0 (oc.1 0)) 1 (oc.1 1)) 2 (oc.1 2)) 3 (oc.1 3)) 4 (oc.1 4)) 5 (oc.1 5)) 6 (oc.1 6)) 7 (va_cpy (oc.2 7) (ou.2 7) (0 : Int32).toNatClampNeg (0 : Int32).toNatClampNeg (6 : Int32).toNatClampNeg)) 8 (va_cpy (oc.2 8) (ou.2 8) (0 : Int32).toNatClampNeg (0 : Int32).toNatClampNeg (6 : Int32).toNatClampNeg)) 9 (va_cpy (oc.2 9) (ou.2 9) (0 : Int32).toNatClampNeg (0 : Int32).toNatClampNeg (10 : Int32).toNatClampNeg)) ++ wX0 cI hc ac oc) H := hP
  have hD : va_D A (wX0 cI hu au (ub (ub (ub (us (us (us (us (us (us (us ou 0 (oc.1 0)) 1 (oc.1 1)) 2 (oc.1 2)) 3 (oc.1 3)) 4 (oc.1 4)) 5 (oc.1 5)) 6 (oc.1 6)) 7 (va_cpy (oc.2 7) (ou.2 7) (0 : Int32).toNatClampNeg (0 : Int32).toNatClampNeg (6 : Int32).toNatClampNeg)) 8 (va_cpy (oc.2 8) (ou.2 8) (0 : Int32).toNatClampNeg (0 : Int32).toNatClampNeg (6 : Int32).toNatClampNeg)) 9 (va_cpy (oc.2 9) (ou.2 9) (0 : Int32).toNatClampNeg (0 : Int32).toNatClampNeg (10 : Int32).toNatClampNeg)) ++ wX0 cI hc ac oc) := hD
  refine lv_aload_n hx hb dX0_copyFrom_101 rfl (lv_at hl 1 rfl) ?_
  refine va_get (D := D) (ci := 0) (v := .ref (ac 10)) (C := RX0) (T := TX0) (N := 12) hx hb hts hi0 hown hK hP 6 rfl rfl 10 (by decide) hf28 (fun _ h9 => h9) rfl dX0_copyFrom_102 ?_
  refine lv_iconst (v := 0) hx hb dX0_copyFrom_105 (by decide) ?_
  refine lv_aload_n hx hb dX0_copyFrom_106 rfl (lv_at hl 0 rfl) ?_
  refine va_get (D := D) (ci := 0) (v := .ref (au 10)) (C := RX0) (T := TX0) (N := 12) hx hb hts hi0 hown hK hP 0 rfl rfl 10 (by decide) hf28 (fun _ h9 => h9) rfl dX0_copyFrom_107 ?_
  refine lv_iconst (v := 0) hx hb dX0_copyFrom_110 (by decide) ?_
  refine lv_bipush (v := 6) hx hb dX0_copyFrom_111 (by decide) ?_
  refine va_copyi (f := (oc.2 10)) (g := (ou.2 10)) hx hb (by rw [hml]; exact hl.1.symm) hown (hts (.methodLink RX0 55 arraycopyName) (by decide +kernel)) (hts (.native arraycopyName) (by decide +kernel)) (hts (.static arraycopyName) (by decide +kernel)) (hts (.initialized "java/lang/System") (by decide +kernel)) hK hP hD hS 10 4 0 0 rfl rfl rfl rfl rfl (by decide) (by decide) (by decide) (by decide) (by decide) (fun _ _ => rfl) (Nat.le_of_ble_eq_true rfl) (by decide) dX0_copyFrom_113 (fun H locs hP hD hS => ?_)
  have hP : va_P D vwCl (wX0 cI hu au (ub (ub (ub (ub (us (us (us (us (us (us (us ou 0 (oc.1 0)) 1 (oc.1 1)) 2 (oc.1 2)) 3 (oc.1 3)) 4 (oc.1 4)) 5 (oc.1 5)) 6 (oc.1 6)) 7 (va_cpy (oc.2 7) (ou.2 7) (0 : Int32).toNatClampNeg (0 : Int32).toNatClampNeg (6 : Int32).toNatClampNeg)) 8 (va_cpy (oc.2 8) (ou.2 8) (0 : Int32).toNatClampNeg (0 : Int32).toNatClampNeg (6 : Int32).toNatClampNeg)) 9 (va_cpy (oc.2 9) (ou.2 9) (0 : Int32).toNatClampNeg (0 : Int32).toNatClampNeg (10 : Int32).toNatClampNeg)) 10 (va_cpy (oc.2 10) (ou.2 10) (0 : Int32).toNatClampNeg (0 : Int32).toNatClampNeg (6 : Int32).toNatClampNeg)) ++ wX0 cI hc ac oc) H := hP
  have hD : va_D A (wX0 cI hu au (ub (ub (ub (ub (us (us (us (us (us (us (us ou 0 (oc.1 0)) 1 (oc.1 1)) 2 (oc.1 2)) 3 (oc.1 3)) 4 (oc.1 4)) 5 (oc.1 5)) 6 (oc.1 6)) 7 (va_cpy (oc.2 7) (ou.2 7) (0 : Int32).toNatClampNeg (0 : Int32).toNatClampNeg (6 : Int32).toNatClampNeg)) 8 (va_cpy (oc.2 8) (ou.2 8) (0 : Int32).toNatClampNeg (0 : Int32).toNatClampNeg (6 : Int32).toNatClampNeg)) 9 (va_cpy (oc.2 9) (ou.2 9) (0 : Int32).toNatClampNeg (0 : Int32).toNatClampNeg (10 : Int32).toNatClampNeg)) 10 (va_cpy (oc.2 10) (ou.2 10) (0 : Int32).toNatClampNeg (0 : Int32).toNatClampNeg (6 : Int32).toNatClampNeg)) ++ wX0 cI hc ac oc) := hD
  refine lv_aload_n hx hb dX0_copyFrom_116 rfl (lv_at hl 1 rfl) ?_
  refine va_get (D := D) (ci := 0) (v := .ref (ac 11)) (C := RX0) (T := TX0) (N := 12) hx hb hts hi0 hown hK hP 6 rfl rfl 11 (by decide) hf31 (fun _ h9 => h9) rfl dX0_copyFrom_117 ?_
  refine lv_iconst (v := 0) hx hb dX0_copyFrom_120 (by decide) ?_
  refine lv_aload_n hx hb dX0_copyFrom_121 rfl (lv_at hl 0 rfl) ?_
  refine va_get (D := D) (ci := 0) (v := .ref (au 11)) (C := RX0) (T := TX0) (N := 12) hx hb hts hi0 hown hK hP 0 rfl rfl 11 (by decide) hf31 (fun _ h9 => h9) rfl dX0_copyFrom_122 ?_
  refine lv_iconst (v := 0) hx hb dX0_copyFrom_125 (by decide) ?_
  refine lv_bipush (v := 6) hx hb dX0_copyFrom_126 (by decide) ?_
  refine va_copyi (f := (oc.2 11)) (g := (ou.2 11)) hx hb (by rw [hml]; exact hl.1.symm) hown (hts (.methodLink RX0 55 arraycopyName) (by decide +kernel)) (hts (.native arraycopyName) (by decide +kernel)) (hts (.static arraycopyName) (by decide +kernel)) (hts (.initialized "java/lang/System") (by decide +kernel)) hK hP hD hS 11 5 0 0 rfl rfl rfl rfl rfl (by decide) (by decide) (by decide) (by decide) (by decide) (fun _ _ => rfl) (Nat.le_of_ble_eq_true rfl) (by decide) dX0_copyFrom_128 (fun H locs hP hD hS => ?_)
  have hP : va_P D vwCl (wX0 cI hu au (ub (ub (ub (ub (ub (us (us (us (us (us (us (us ou 0 (oc.1 0)) 1 (oc.1 1)) 2 (oc.1 2)) 3 (oc.1 3)) 4 (oc.1 4)) 5 (oc.1 5)) 6 (oc.1 6)) 7 (va_cpy (oc.2 7) (ou.2 7) (0 : Int32).toNatClampNeg (0 : Int32).toNatClampNeg (6 : Int32).toNatClampNeg)) 8 (va_cpy (oc.2 8) (ou.2 8) (0 : Int32).toNatClampNeg (0 : Int32).toNatClampNeg (6 : Int32).toNatClampNeg)) 9 (va_cpy (oc.2 9) (ou.2 9) (0 : Int32).toNatClampNeg (0 : Int32).toNatClampNeg (10 : Int32).toNatClampNeg)) 10 (va_cpy (oc.2 10) (ou.2 10) (0 : Int32).toNatClampNeg (0 : Int32).toNatClampNeg (6 : Int32).toNatClampNeg)) 11 (va_cpy (oc.2 11) (ou.2 11) (0 : Int32).toNatClampNeg (0 : Int32).toNatClampNeg (6 : Int32).toNatClampNeg)) ++ wX0 cI hc ac oc) H := hP
  have hD : va_D A (wX0 cI hu au (ub (ub (ub (ub (ub (us (us (us (us (us (us (us ou 0 (oc.1 0)) 1 (oc.1 1)) 2 (oc.1 2)) 3 (oc.1 3)) 4 (oc.1 4)) 5 (oc.1 5)) 6 (oc.1 6)) 7 (va_cpy (oc.2 7) (ou.2 7) (0 : Int32).toNatClampNeg (0 : Int32).toNatClampNeg (6 : Int32).toNatClampNeg)) 8 (va_cpy (oc.2 8) (ou.2 8) (0 : Int32).toNatClampNeg (0 : Int32).toNatClampNeg (6 : Int32).toNatClampNeg)) 9 (va_cpy (oc.2 9) (ou.2 9) (0 : Int32).toNatClampNeg (0 : Int32).toNatClampNeg (10 : Int32).toNatClampNeg)) 10 (va_cpy (oc.2 10) (ou.2 10) (0 : Int32).toNatClampNeg (0 : Int32).toNatClampNeg (6 : Int32).toNatClampNeg)) 11 (va_cpy (oc.2 11) (ou.2 11) (0 : Int32).toNatClampNeg (0 : Int32).toNatClampNeg (6 : Int32).toNatClampNeg)) ++ wX0 cI hc ac oc) := hD
  have e9 : fX0_copyFrom ou oc = (ub (ub (ub (ub (ub (us (us (us (us (us (us (us ou 0 (oc.1 0)) 1 (oc.1 1)) 2 (oc.1 2)) 3 (oc.1 3)) 4 (oc.1 4)) 5 (oc.1 5)) 6 (oc.1 6)) 7 (va_cpy (oc.2 7) (ou.2 7) (0 : Int32).toNatClampNeg (0 : Int32).toNatClampNeg (6 : Int32).toNatClampNeg)) 8 (va_cpy (oc.2 8) (ou.2 8) (0 : Int32).toNatClampNeg (0 : Int32).toNatClampNeg (6 : Int32).toNatClampNeg)) 9 (va_cpy (oc.2 9) (ou.2 9) (0 : Int32).toNatClampNeg (0 : Int32).toNatClampNeg (10 : Int32).toNatClampNeg)) 10 (va_cpy (oc.2 10) (ou.2 10) (0 : Int32).toNatClampNeg (0 : Int32).toNatClampNeg (6 : Int32).toNatClampNeg)) 11 (va_cpy (oc.2 11) (ou.2 11) (0 : Int32).toNatClampNeg (0 : Int32).toNatClampNeg (6 : Int32).toNatClampNeg)) := by
    rfl
  exact W.vret hx hb hr (fun t ht hW => ⟨⟨(ub (ub (ub (ub (ub (us (us (us (us (us (us (us ou 0 (oc.1 0)) 1 (oc.1 1)) 2 (oc.1 2)) 3 (oc.1 3)) 4 (oc.1 4)) 5 (oc.1 5)) 6 (oc.1 6)) 7 (va_cpy (oc.2 7) (ou.2 7) (0 : Int32).toNatClampNeg (0 : Int32).toNatClampNeg (6 : Int32).toNatClampNeg)) 8 (va_cpy (oc.2 8) (ou.2 8) (0 : Int32).toNatClampNeg (0 : Int32).toNatClampNeg (6 : Int32).toNatClampNeg)) 9 (va_cpy (oc.2 9) (ou.2 9) (0 : Int32).toNatClampNeg (0 : Int32).toNatClampNeg (10 : Int32).toNatClampNeg)) 10 (va_cpy (oc.2 10) (ou.2 10) (0 : Int32).toNatClampNeg (0 : Int32).toNatClampNeg (6 : Int32).toNatClampNeg)) 11 (va_cpy (oc.2 11) (ou.2 11) (0 : Int32).toNatClampNeg (0 : Int32).toNatClampNeg (6 : Int32).toNatClampNeg)), rfl, e9.symm, ⟨by rw [ht]; exact hP, hD⟩⟩, hS.F ht⟩) hS.2.2 dX0_copyFrom_131

