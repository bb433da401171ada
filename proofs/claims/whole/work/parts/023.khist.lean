set_option maxHeartbeats 4000000 in
set_option maxRecDepth 100000 in
theorem kX1_begin (l : Launch) (D : va_G) (cI cZ cC : ClassId) (hy : Nat) (ay : Nat → Nat) (oy : OV) (hd : Nat) (ad : Nat → Nat) (od : OV) (hc : Nat) (ac : Nat → Nat) (oc : OV)   {sz : Nat} : Met l yX1_begin wsX1_begin ({ frames := 2, cells := 0, slots := 0, locals := 81 }) (pW D (tyv cI cZ cC) (wX1 cI hd hy ay oy ++ wX0 cI hd ad od ++ wX0 cI hc ac oc) sz [.ref hy, .ref hc]) (va_Qv (fun (u : OV × OV) => u = fX1_begin oy od oc) (qW D (fun (u : OV × OV) => wX1 cI hd hy ay u.2 ++ wX0 cI hd ad u.1 ++ wX0 cI hc ac oc) (va_A (wX1 cI hd hy ay oy ++ wX0 cI hd ad od ++ wX0 cI hc ac oc) sz)) (va_A (wX1 cI hd hy ay oy ++ wX0 cI hd ad od ++ wX0 cI hc ac oc) sz)) 0 0 (va_A (wX1 cI hd hy ay oy ++ wX0 cI hd ad od ++ wX0 cI hc ac oc) sz) := by
  refine Met.ofW (cc := cX1_begin) (maxL := 2) (ret := none) (by decide) rfl ?_
  intro p e s m args below meth c s₁ B hml hv
  obtain ⟨rfl, hsz, hP, hK, hN, hD0⟩ := hv
  have hx := B.exec
  have hb := B.bytes
  have hr := B.returns
  have hts := atoms_spec (ws := wsX1_begin) B.pre
  have hown : s.vm.findClass RX1 = some m.cls := findClass_of_methodNamed B.named
  have hlocks := B.notSynchronized
  subst hsz
  have hD := hD0.self (sz := s.heap.size)
  generalize hAe : va_A (wX1 cI hd hy ay oy ++ wX0 cI hd ad od ++ wX0 cI hc ac oc) s.heap.size = A at hD ⊢
  have hA : ∀ q : Nat, s.heap.size ≤ q → A q := fun q h => by rw [← hAe]; exact Or.inr h
  have hS : va_S A s.heap s.heap [] := va_S.rf
  have hP : va_P D vwCl (wX1 cI hd hy ay oy ++ wX0 cI hd ad od ++ wX0 cI hc ac oc) s.heap := hP
  have hl := lv_entry ([.ref hy, .ref hc]) (n := 2) (Nat.le_of_ble_eq_true rfl)
  rw [lg_entry_eq]
  generalize (lg_sl ([.ref hy, .ref hc]) ++ List.replicate (2 - (lg_sl ([.ref hy, .ref hc])).length) Slot.unset).toArray = ls at hl ⊢
  have hl : lv_has ls 2 [(0, .ref hy), (1, .ref hc)] := hl
  have hSF : CallFix p m c cX1_begin 2 s _ wsX1_begin RX1 := ⟨hx, hb, hml, hown, hts⟩
  have hi1 : ∀ w ∈ wsX10, w ∈ wsX1_begin := by decide +kernel
  have hf12 : (Cond.fieldLink RX1 12 "UmbrellaVote$History" "city" "LUmbrellaVote$City;").before _ s = true := hts _ (by decide +kernel)
  have hf26 : (Cond.fieldLink RX1 26 "UmbrellaVote$History" "ruling" "I").before _ s = true := hts _ (by decide +kernel)
  have hf30 : (Cond.fieldLink RX1 30 "UmbrellaVote$History" "reigns" "I").before _ s = true := hts _ (by decide +kernel)
  have hf18 : (Cond.fieldLink RX1 18 "UmbrellaVote$History" "years" "[I").before _ s = true := hts _ (by decide +kernel)
  refine lv_aload_n hx hb dX1_begin_0 rfl (lv_at hl 0 rfl) ?_
  refine va_get (D := D) (ci := 1) (v := .ref hd) (C := RX1) (T := TX1) (N := 4) hx hb hts hi1 hown hK hP 0 rfl rfl 0 (by decide) hf12 (fun _ h9 => h9) rfl dX1_begin_1 ?_
  refine lv_aload_n hx hb dX1_begin_4 rfl (lv_at hl 1 rfl) ?_
  refine wcVv (b := hd) (As := [.ref hc]) (rest := []) (wr := [(hy, .inr (1, [.ref hd, .ref (ay 1), .int (oy.1 2), .int (oy.1 3)])), (ay 1, .inl (cI, 9, .inl (oy.2 1)))]) (ws' := wX1 cI hd hy ay oy ++ wX0 cI hd ad (fX0_copyFrom od oc) ++ wX0 cI hc ac oc) hSF (kX0_copyFrom l D cI cZ cC hd ad od hc ac oc) (cwV 1 hts gX1_begin_X0_copyFrom rfl rfl rfl (by decide +kernel) ⟨Nat.le_of_ble_eq_true rfl, Nat.le_of_ble_eq_true rfl⟩) (va_recv hK hP (ci := 0) (q0 := 2) rfl rfl) hP hD hS hA hK hN [2, 3, 4, 5, 6, 7, 8, 9, 10, 11, 12, 13] [0, 1] [0, 1, 2, 3, 4, 5, 6, 7, 8, 9, 10, 11, 12, 13] rfl (by decide) rfl (by decide) (by decide) rfl (by decide) rfl rfl hl.1 (Nat.le_of_ble_eq_true rfl) dX1_begin_5 ⟨Nat.zero_le _, Nat.zero_le _⟩ (fun H locs hP hD hS => ?_)
  refine lv_aload_n hx hb dX1_begin_8 rfl (lv_at hl 0 rfl) ?_
  refine lv_iconst (v := 0) hx hb dX1_begin_9 (by decide) ?_
  refine va_put (D := D) (ci := 1) (v := .int 0) (ty := .int) (C := RX1) (T := TX1) (N := 4) hx hb hts hi1 tyX1 tyX1_ok nmX1 hown hK hP hD hS 0 rfl rfl 2 (by decide) hf26 (fun _ h9 => h9) rfl (by decide +kernel) rfl rfl (Nat.le_of_ble_eq_true rfl) dX1_begin_10 (fun H locs hP hD hS => ?_)
  have hP : va_P D vwCl (wX1 cI hd hy ay (us oy 2 0) ++ wX0 cI hd ad (fX0_copyFrom od oc) ++ wX0 cI hc ac oc) H := hP
  have hD : va_D A (wX1 cI hd hy ay (us oy 2 0) ++ wX0 cI hd ad (fX0_copyFrom od oc) ++ wX0 cI hc ac oc) := hD
  refine lv_aload_n hx hb dX1_begin_13 rfl (lv_at hl 0 rfl) ?_
  refine lv_iconst (v := 0) hx hb dX1_begin_14 (by decide) ?_
  refine va_put (D := D) (ci := 1) (v := .int 0) (ty := .int) (C := RX1) (T := TX1) (N := 4) hx hb hts hi1 tyX1 tyX1_ok nmX1 hown hK hP hD hS 0 rfl rfl 3 (by decide) hf30 (fun _ h9 => h9) rfl (by decide +kernel) rfl rfl (Nat.le_of_ble_eq_true rfl) dX1_begin_15 (fun H locs hP hD hS => ?_)
  rw [sw_ydc_y_s3] at hP hD
  have hP : va_P D vwCl (wX1 cI hd hy ay (us (us oy 2 0) 3 0) ++ wX0 cI hd ad (fX0_copyFrom od oc) ++ wX0 cI hc ac oc) H := hP
  have hD : va_D A (wX1 cI hd hy ay (us (us oy 2 0) 3 0) ++ wX0 cI hd ad (fX0_copyFrom od oc) ++ wX0 cI hc ac oc) := hD
  refine lv_aload_n hx hb dX1_begin_18 rfl (lv_at hl 0 rfl) ?_
  refine va_get (D := D) (ci := 1) (v := .ref (ay 1)) (C := RX1) (T := TX1) (N := 4) hx hb hts hi1 hown hK hP 0 rfl rfl 1 (by decide) hf18 (fun _ h9 => h9) rfl dX1_begin_19 ?_
  refine lv_iconst (v := 0) hx hb dX1_begin_22 (by decide) ?_
  refine wcSv (As := [.ref (ay 1), .int 0]) (rest := []) (wr := [(hy, .inr (1, [.ref hd, .ref (ay 1), .int ((us (us oy 2 0) 3 0).1 2), .int ((us (us oy 2 0) 3 0).1 3)])), (hd, .inr (0, [.int ((fX0_copyFrom od oc).1 0), .int ((fX0_copyFrom od oc).1 1), .int ((fX0_copyFrom od oc).1 2), .int ((fX0_copyFrom od oc).1 3), .int ((fX0_copyFrom od oc).1 4), .int ((fX0_copyFrom od oc).1 5), .int ((fX0_copyFrom od oc).1 6), .ref (ad 7), .ref (ad 8), .ref (ad 9), .ref (ad 10), .ref (ad 11)])), (ad 7, .inl (cI, 6, .inl ((fX0_copyFrom od oc).2 7))), (ad 8, .inl (cI, 6, .inl ((fX0_copyFrom od oc).2 8))), (ad 9, .inl (cI, 10, .inl ((fX0_copyFrom od oc).2 9))), (ad 10, .inl (cI, 6, .inl ((fX0_copyFrom od oc).2 10))), (ad 11, .inl (cI, 6, .inl ((fX0_copyFrom od oc).2 11))), (hc, .inr (0, [.int (oc.1 0), .int (oc.1 1), .int (oc.1 2), .int (oc.1 3), .int (oc.1 4), .int (oc.1 5), .int (oc.1 6), .ref (ac 7), .ref (ac 8), .ref (ac 9), .ref (ac 10), .ref (ac 11)])), (ac 7, .inl (cI, 6, .inl (oc.2 7))), (ac 8, .inl (cI, 6, .inl (oc.2 8))), (ac 9, .inl (cI, 10, .inl (oc.2 9))), (ac 10, .inl (cI, 6, .inl (oc.2 10))), (ac 11, .inl (cI, 6, .inl (oc.2 11)))]) (ws' := wX1 cI hd hy ay (ub (us (us oy 2 0) 3 0) 1 (fJ7_fill_53178 9 (oy.2 1) 0)) ++ wX0 cI hd ad (fX0_copyFrom od oc) ++ wX0 cI hc ac oc) hSF (kJ7_fill_53178 l D cI cZ cC (ay 1) 9 (oy.2 1) 0 (by decide)) (va_cwS 2 hts gX1_begin_J7_fill_53178 rfl rfl rfl (by decide +kernel) ⟨Nat.le_of_ble_eq_true rfl, Nat.le_of_ble_eq_true rfl⟩) hP hD hS hA hK hN [1] [0, 2, 3, 4, 5, 6, 7, 8, 9, 10, 11, 12, 13] [0, 13, 1, 2, 3, 4, 5, 6, 7, 8, 9, 10, 11, 12] rfl (by decide) rfl (by decide) (by decide) rfl (by decide) rfl rfl hl.1 (Nat.le_of_ble_eq_true rfl) dX1_begin_23 ⟨Nat.zero_le _, Nat.zero_le _⟩ (fun H locs hP hD hS => ?_)
  have e9 : fX1_begin oy od oc = ((fX0_copyFrom od oc), (ub (us (us oy 2 0) 3 0) 1 (fJ7_fill_53178 9 (oy.2 1) 0))) := by
    rfl
  exact W.vret hx hb hr (fun t ht hW => ⟨⟨((fX0_copyFrom od oc), (ub (us (us oy 2 0) 3 0) 1 (fJ7_fill_53178 9 (oy.2 1) 0))), rfl, e9.symm, ⟨by rw [ht]; exact hP, hD⟩⟩, hS.F ht⟩) hS.2.2 dX1_begin_26

set_option maxHeartbeats 4000000 in
set_option maxRecDepth 100000 in
theorem kX1_become (l : Launch) (D : va_G) (cI cZ cC : ClassId) (hy : Nat) (ay : Nat → Nat) (oy : OV) (ey : Nat) (p0 : Int32)  {sz : Nat} : Met l yX1_become wsX1_become ({ frames := 0, cells := 0, slots := 0, locals := 0 }) (pW D (tyv cI cZ cC) (wX1 cI ey hy ay oy) sz [.ref hy, .int p0]) (va_Qv (fun (u : OV) => u = fX1_become oy p0) (qW D (fun (u : OV) => wX1 cI ey hy ay u) (va_A (wX1 cI ey hy ay oy) sz)) (va_A (wX1 cI ey hy ay oy) sz)) 0 0 (va_A (wX1 cI ey hy ay oy) sz) := by
  refine Met.ofW (cc := cX1_become) (maxL := 2) (ret := none) (by decide) rfl ?_
  intro p e s m args below meth c s₁ B hml hv
  obtain ⟨rfl, hsz, hP, hK, hN, hD0⟩ := hv
  have hx := B.exec
  have hb := B.bytes
  have hr := B.returns
  have hts := atoms_spec (ws := wsX1_become) B.pre
  have hown : s.vm.findClass RX1 = some m.cls := findClass_of_methodNamed B.named
  have hlocks := B.notSynchronized
  subst hsz
  have hD := hD0.self (sz := s.heap.size)
  generalize hAe : va_A (wX1 cI ey hy ay oy) s.heap.size = A at hD ⊢
  have hA : ∀ q : Nat, s.heap.size ≤ q → A q := fun q h => by rw [← hAe]; exact Or.inr h
  have hS : va_S A s.heap s.heap [] := va_S.rf
  have hP : va_P D vwCl (wX1 cI ey hy ay oy) s.heap := hP
  have hl := lv_entry ([.ref hy, .int p0]) (n := 2) (Nat.le_of_ble_eq_true rfl)
  rw [lg_entry_eq]
  generalize (lg_sl ([.ref hy, .int p0]) ++ List.replicate (2 - (lg_sl ([.ref hy, .int p0])).length) Slot.unset).toArray = ls at hl ⊢
  have hl : lv_has ls 2 [(0, .ref hy), (1, .int p0)] := hl
  have hSF : CallFix p m c cX1_become 2 s _ wsX1_become RX1 := ⟨hx, hb, hml, hown, hts⟩
  have hi1 : ∀ w ∈ wsX10, w ∈ wsX1_become := by decide +kernel
  have hf26 : (Cond.fieldLink RX1 26 "UmbrellaVote$History" "ruling" "I").before _ s = true := hts _ (by decide +kernel)
  have hf30 : (Cond.fieldLink RX1 30 "UmbrellaVote$History" "reigns" "I").before _ s = true := hts _ (by decide +kernel)
  refine lv_iload_n hx hb dX1_become_0 rfl (lv_at hl 1 rfl) ?_
  refine lv_aload_n hx hb dX1_become_1 rfl (lv_at hl 0 rfl) ?_
  refine va_get (D := D) (ci := 1) (v := .int (oy.1 2)) (C := RX1) (T := TX1) (N := 4) hx hb hts hi1 hown hK hP 0 rfl rfl 2 (by decide) hf26 (fun _ h9 => h9) rfl dX1_become_2 ?_
  refine lv_icmp_eq (tgt := 22) hx hb dX1_become_5 (by decide) (fun c1 => ?_) (fun c1 => ?_)
  · skip
    refine lv_aload_n hx hb dX1_become_22 rfl (lv_at hl 0 rfl) ?_
    refine lv_iload_n hx hb dX1_become_23 rfl (lv_at hl 1 rfl) ?_
    refine va_put (D := D) (ci := 1) (v := .int p0) (ty := .int) (C := RX1) (T := TX1) (N := 4) hx hb hts hi1 tyX1 tyX1_ok nmX1 hown hK hP hD hS 0 rfl rfl 2 (by decide) hf26 (fun _ h9 => h9) rfl (by decide +kernel) rfl rfl (Nat.le_of_ble_eq_true rfl) dX1_become_24 (fun H locs hP hD hS => ?_)
    have hP : va_P D vwCl (wX1 cI ey hy ay (us oy 2 p0)) H := hP
    have hD : va_D A (wX1 cI ey hy ay (us oy 2 p0)) := hD
    have e9 : fX1_become oy p0 = (us oy 2 p0) := by
      simp only [fX1_become, if_pos c1]
    exact W.vret hx hb hr (fun t ht hW => ⟨⟨(us oy 2 p0), rfl, e9.symm, ⟨by rw [ht]; exact hP, hD⟩⟩, hS.F ht⟩) hS.2.2 dX1_become_27
  · skip
    refine lv_iload_n hx hb dX1_become_8 rfl (lv_at hl 1 rfl) ?_
    refine lv_if_eq (tgt := 22) hx hb dX1_become_9 (by decide) (fun c2 => ?_) (fun c2 => ?_)
    · skip
      refine lv_aload_n hx hb dX1_become_22 rfl (lv_at hl 0 rfl) ?_
      refine lv_iload_n hx hb dX1_become_23 rfl (lv_at hl 1 rfl) ?_
      refine va_put (D := D) (ci := 1) (v := .int p0) (ty := .int) (C := RX1) (T := TX1) (N := 4) hx hb hts hi1 tyX1 tyX1_ok nmX1 hown hK hP hD hS 0 rfl rfl 2 (by decide) hf26 (fun _ h9 => h9) rfl (by decide +kernel) rfl rfl (Nat.le_of_ble_eq_true rfl) dX1_become_24 (fun H locs hP hD hS => ?_)
      have hP : va_P D vwCl (wX1 cI ey hy ay (us oy 2 p0)) H := hP
      have hD : va_D A (wX1 cI ey hy ay (us oy 2 p0)) := hD
      have e9 : fX1_become oy p0 = (us oy 2 p0) := by
        simp only [fX1_become, if_neg c1, if_pos c2]
      exact W.vret hx hb hr (fun t ht hW => ⟨⟨(us oy 2 p0), rfl, e9.symm, ⟨by rw [ht]; exact hP, hD⟩⟩, hS.F ht⟩) hS.2.2 dX1_become_27
    · skip
      refine lv_aload_n hx hb dX1_become_12 rfl (lv_at hl 0 rfl) ?_
      refine lv_dup hx hb dX1_become_13 rfl ?_
      refine va_get (D := D) (ci := 1) (v := .int (oy.1 3)) (C := RX1) (T := TX1) (N := 4) hx hb hts hi1 hown hK hP 0 rfl rfl 3 (by decide) hf30 (fun _ h9 => h9) rfl dX1_become_14 ?_
      refine lv_iconst (v := 1) hx hb dX1_become_17 (by decide) ?_
      refine lv_iadd hx hb dX1_become_18 ?_
      refine va_put (D := D) (ci := 1) (v := .int ((oy.1 3) + 1)) (ty := .int) (C := RX1) (T := TX1) (N := 4) hx hb hts hi1 tyX1 tyX1_ok nmX1 hown hK hP hD hS 0 rfl rfl 3 (by decide) hf30 (fun _ h9 => h9) rfl (by decide +kernel) rfl rfl (Nat.le_of_ble_eq_true rfl) dX1_become_19 (fun H locs hP hD hS => ?_)
      have hP : va_P D vwCl (wX1 cI ey hy ay (us oy 3 ((oy.1 3) + 1))) H := hP
      have hD : va_D A (wX1 cI ey hy ay (us oy 3 ((oy.1 3) + 1))) := hD
      refine lv_aload_n hx hb dX1_become_22 rfl (lv_at hl 0 rfl) ?_
      refine lv_iload_n hx hb dX1_become_23 rfl (lv_at hl 1 rfl) ?_
      refine va_put (D := D) (ci := 1) (v := .int p0) (ty := .int) (C := RX1) (T := TX1) (N := 4) hx hb hts hi1 tyX1 tyX1_ok nmX1 hown hK hP hD hS 0 rfl rfl 2 (by decide) hf26 (fun _ h9 => h9) rfl (by decide +kernel) rfl rfl (Nat.le_of_ble_eq_true rfl) dX1_become_24 (fun H locs hP hD hS => ?_)
      rw [sw_y_y_s2_ey] at hP hD
      have hP : va_P D vwCl (wX1 cI ey hy ay (us (us oy 3 ((oy.1 3) + 1)) 2 p0)) H := hP
      have hD : va_D A (wX1 cI ey hy ay (us (us oy 3 ((oy.1 3) + 1)) 2 p0)) := hD
      have e9 : fX1_become oy p0 = (us (us oy 3 ((oy.1 3) + 1)) 2 p0) := by
        simp only [fX1_become, if_neg c1, if_neg c2]
      exact W.vret hx hb hr (fun t ht hW => ⟨⟨(us (us oy 3 ((oy.1 3) + 1)) 2 p0), rfl, e9.symm, ⟨by rw [ht]; exact hP, hD⟩⟩, hS.F ht⟩) hS.2.2 dX1_become_27

set_option maxHeartbeats 4000000 in
set_option maxRecDepth 100000 in
theorem kX1_opened (l : Launch) (D : va_G) (cI cZ cC : ClassId) (hy : Nat) (ay : Nat → Nat) (oy : OV) (ey : Nat) (p0 : Int32)  {sz : Nat} : Met l yX1_opened wsX1_opened ({ frames := 1, cells := 0, slots := 0, locals := 21 }) (pW D (tyv cI cZ cC) (wX1 cI ey hy ay oy) sz [.ref hy, .int p0]) (va_Qv (fun (u : OV) => u = fX1_opened oy p0) (qW D (fun (u : OV) => wX1 cI ey hy ay u) (va_A (wX1 cI ey hy ay oy) sz)) (va_A (wX1 cI ey hy ay oy) sz)) 0 0 (va_A (wX1 cI ey hy ay oy) sz) := by
  refine Met.ofW (cc := cX1_opened) (maxL := 2) (ret := none) (by decide) rfl ?_
  intro p e s m args below meth c s₁ B hml hv
  obtain ⟨rfl, hsz, hP, hK, hN, hD0⟩ := hv
  have hx := B.exec
  have hb := B.bytes
  have hr := B.returns
  have hts := atoms_spec (ws := wsX1_opened) B.pre
  have hown : s.vm.findClass RX1 = some m.cls := findClass_of_methodNamed B.named
  have hlocks := B.notSynchronized
  subst hsz
  have hD := hD0.self (sz := s.heap.size)
  generalize hAe : va_A (wX1 cI ey hy ay oy) s.heap.size = A at hD ⊢
  have hA : ∀ q : Nat, s.heap.size ≤ q → A q := fun q h => by rw [← hAe]; exact Or.inr h
  have hS : va_S A s.heap s.heap [] := va_S.rf
  have hP : va_P D vwCl (wX1 cI ey hy ay oy) s.heap := hP
  have hl := lv_entry ([.ref hy, .int p0]) (n := 2) (Nat.le_of_ble_eq_true rfl)
  rw [lg_entry_eq]
  generalize (lg_sl ([.ref hy, .int p0]) ++ List.replicate (2 - (lg_sl ([.ref hy, .int p0])).length) Slot.unset).toArray = ls at hl ⊢
  have hl : lv_has ls 2 [(0, .ref hy), (1, .int p0)] := hl
  have hSF : CallFix p m c cX1_opened 2 s _ wsX1_opened RX1 := ⟨hx, hb, hml, hown, hts⟩
  refine lv_iload_n hx hb dX1_opened_0 rfl (lv_at hl 1 rfl) ?_
  refine lv_if_eq (tgt := 9) hx hb dX1_opened_1 (by decide) (fun c1 => ?_) (fun c1 => ?_)
  · skip
    have e9 : fX1_opened oy p0 = oy := by
      simp only [fX1_opened, if_pos c1]
    exact W.vret hx hb hr (fun t ht hW => ⟨⟨oy, rfl, e9.symm, ⟨by rw [ht]; exact hP, hD⟩⟩, hS.F ht⟩) hS.2.2 dX1_opened_9
  · skip
    refine lv_aload_n hx hb dX1_opened_4 rfl (lv_at hl 0 rfl) ?_
    refine lv_iload_n hx hb dX1_opened_5 rfl (lv_at hl 1 rfl) ?_
    refine wcVv (b := hy) (As := [.int p0]) (rest := []) (wr := []) (ws' := wX1 cI ey hy ay (fX1_become oy p0)) hSF (kX1_become l D cI cZ cC hy ay oy ey p0) (cwV 1 hts gX1_opened_X1_become rfl rfl rfl (by decide +kernel) ⟨Nat.le_of_ble_eq_true rfl, Nat.le_of_ble_eq_true rfl⟩) (va_recv hK hP (ci := 1) (q0 := 0) rfl rfl) hP hD hS hA hK hN [0, 1] [] [0, 1] rfl (by decide) rfl (by decide) (by decide) rfl (by decide) rfl rfl hl.1 (Nat.le_of_ble_eq_true rfl) dX1_opened_6 ⟨Nat.zero_le _, Nat.zero_le _⟩ (fun H locs hP hD hS => ?_)
    have e9 : fX1_opened oy p0 = (fX1_become oy p0) := by
      simp only [fX1_opened, if_neg c1]
    exact W.vret hx hb hr (fun t ht hW => ⟨⟨(fX1_become oy p0), rfl, e9.symm, ⟨by rw [ht]; exact hP, hD⟩⟩, hS.F ht⟩) hS.2.2 dX1_opened_9

set_option maxHeartbeats 4000000 in
set_option maxRecDepth 100000 in
theorem kX1_rain (l : Launch) (D : va_G) (cI cZ cC : ClassId) (hy : Nat) (ay : Nat → Nat) (oy : OV) (hd : Nat) (ad : Nat → Nat) (od : OV) (p0 : Int32)  {sz : Nat} : Met l yX1_rain wsX1_rain ({ frames := 3, cells := 0, slots := 0, locals := 71 }) (pW D (tyv cI cZ cC) (wX1 cI hd hy ay oy ++ wX0 cI hd ad od) sz [.ref hy, .int p0]) (va_Qv (fun (u : OV) => u = fX1_rain oy od p0) (qW D (fun (u : OV) => wX1 cI hd hy ay u ++ wX0 cI hd ad od) (va_A (wX1 cI hd hy ay oy ++ wX0 cI hd ad od) sz)) (va_A (wX1 cI hd hy ay oy ++ wX0 cI hd ad od) sz)) 0 0 (va_A (wX1 cI hd hy ay oy ++ wX0 cI hd ad od) sz) := by
  refine Met.ofW (cc := cX1_rain) (maxL := 2) (ret := none) (by decide) rfl ?_
  intro p e s m args below meth c s₁ B hml hv
  obtain ⟨rfl, hsz, hP, hK, hN, hD0⟩ := hv
  have hx := B.exec
  have hb := B.bytes
  have hr := B.returns
  have hts := atoms_spec (ws := wsX1_rain) B.pre
  have hown : s.vm.findClass RX1 = some m.cls := findClass_of_methodNamed B.named
  have hlocks := B.notSynchronized
  subst hsz
  have hD := hD0.self (sz := s.heap.size)
  generalize hAe : va_A (wX1 cI hd hy ay oy ++ wX0 cI hd ad od) s.heap.size = A at hD ⊢
  have hA : ∀ q : Nat, s.heap.size ≤ q → A q := fun q h => by rw [← hAe]; exact Or.inr h
  have hS : va_S A s.heap s.heap [] := va_S.rf
  have hP : va_P D vwCl (wX1 cI hd hy ay oy ++ wX0 cI hd ad od) s.heap := hP
  have hl := lv_entry ([.ref hy, .int p0]) (n := 2) (Nat.le_of_ble_eq_true rfl)
  rw [lg_entry_eq]
  generalize (lg_sl ([.ref hy, .int p0]) ++ List.replicate (2 - (lg_sl ([.ref hy, .int p0])).length) Slot.unset).toArray = ls at hl ⊢
  have hl : lv_has ls 2 [(0, .ref hy), (1, .int p0)] := hl
  have hSF : CallFix p m c cX1_rain 2 s _ wsX1_rain RX1 := ⟨hx, hb, hml, hown, hts⟩
  have hi1 : ∀ w ∈ wsX10, w ∈ wsX1_rain := by decide +kernel
  have hf12 : (Cond.fieldLink RX1 12 "UmbrellaVote$History" "city" "LUmbrellaVote$City;").before _ s = true := hts _ (by decide +kernel)
  refine lv_aload_n hx hb dX1_rain_0 rfl (lv_at hl 0 rfl) ?_
  refine lv_aload_n hx hb dX1_rain_1 rfl (lv_at hl 0 rfl) ?_
  refine va_get (D := D) (ci := 1) (v := .ref hd) (C := RX1) (T := TX1) (N := 4) hx hb hts hi1 hown hK hP 0 rfl rfl 0 (by decide) hf12 (fun _ h9 => h9) rfl dX1_rain_2 ?_
  refine lv_aload_n hx hb dX1_rain_5 rfl (lv_at hl 0 rfl) ?_
  refine va_get (D := D) (ci := 1) (v := .ref hd) (C := RX1) (T := TX1) (N := 4) hx hb hts hi1 hown hK hP 0 rfl rfl 0 (by decide) hf12 (fun _ h9 => h9) rfl dX1_rain_6 ?_
  refine rcVi (b := hd) (As := []) (rest := [.ref hd, .ref hy]) hSF (kX0_umbrellas l D cI cZ cC hd ad od) (cwV 0 hts gX1_rain_X0_umbrellas rfl rfl rfl (by decide +kernel) ⟨Nat.le_of_ble_eq_true rfl, Nat.le_of_ble_eq_true rfl⟩) (va_recv hK hP (ci := 0) (q0 := 2) rfl rfl) (hP.sub [2, 3, 4, 5, 6, 7] rfl) hK hN rfl rfl hl.1 (Nat.le_of_ble_eq_true rfl) dX1_rain_9 ⟨Nat.zero_le _, Nat.zero_le _⟩ ?_
  refine lv_iload_n hx hb dX1_rain_12 rfl (lv_at hl 1 rfl) ?_
  refine rcVi (b := hd) (As := [.int (fX0_umbrellas od), .int p0]) (rest := [.ref hy]) hSF (kX0_firstOf l D cI cZ cC hd ad od (fX0_umbrellas od) p0) (cwV 2 hts gX1_rain_X0_firstOf rfl rfl rfl (by decide +kernel) ⟨Nat.le_of_ble_eq_true rfl, Nat.le_of_ble_eq_true rfl⟩) (va_recv hK hP (ci := 0) (q0 := 2) rfl rfl) (hP.sub [2, 3, 4, 5, 6, 7] rfl) hK hN rfl rfl hl.1 (Nat.le_of_ble_eq_true rfl) dX1_rain_13 ⟨Nat.zero_le _, Nat.zero_le _⟩ ?_
  refine wcVv (b := hy) (As := [.int (fX0_firstOf od (fX0_umbrellas od) p0)]) (rest := []) (wr := [(hd, .inr (0, [.int (od.1 0), .int (od.1 1), .int (od.1 2), .int (od.1 3), .int (od.1 4), .int (od.1 5), .int (od.1 6), .ref (ad 7), .ref (ad 8), .ref (ad 9), .ref (ad 10), .ref (ad 11)])), (ad 7, .inl (cI, 6, .inl (od.2 7))), (ad 8, .inl (cI, 6, .inl (od.2 8))), (ad 9, .inl (cI, 10, .inl (od.2 9))), (ad 10, .inl (cI, 6, .inl (od.2 10))), (ad 11, .inl (cI, 6, .inl (od.2 11)))]) (ws' := wX1 cI hd hy ay (fX1_opened oy (fX0_firstOf od (fX0_umbrellas od) p0)) ++ wX0 cI hd ad od) hSF (kX1_opened l D cI cZ cC hy ay oy hd (fX0_firstOf od (fX0_umbrellas od) p0)) (cwV 1 hts gX1_rain_X1_opened rfl rfl rfl (by decide +kernel) ⟨Nat.le_of_ble_eq_true rfl, Nat.le_of_ble_eq_true rfl⟩) (va_recv hK hP (ci := 1) (q0 := 0) rfl rfl) hP hD hS hA hK hN [0, 1] [2, 3, 4, 5, 6, 7] [6, 7, 0, 1, 2, 3, 4, 5] rfl (by decide) rfl (by decide) (by decide) rfl (by decide) rfl rfl hl.1 (Nat.le_of_ble_eq_true rfl) dX1_rain_16 ⟨Nat.zero_le _, Nat.zero_le _⟩ (fun H locs hP hD hS => ?_)
  have e9 : fX1_rain oy od p0 = (fX1_opened oy (fX0_firstOf od (fX0_umbrellas od) p0)) := by
    rfl
  exact W.vret hx hb hr (fun t ht hW => ⟨⟨(fX1_opened oy (fX0_firstOf od (fX0_umbrellas od) p0)), rfl, e9.symm, ⟨by rw [ht]; exact hP, hD⟩⟩, hS.F ht⟩) hS.2.2 dX1_rain_19

set_option maxHeartbeats 4000000 in
set_option maxRecDepth 100000 in
theorem kX1_breakUmbrella (l : Launch) (D : va_G) (cI cZ cC : ClassId) (hy : Nat) (ay : Nat → Nat) (oy : OV) (hd : Nat) (ad : Nat → Nat) (od : OV) (p0 : Int32)  {sz : Nat} : Met l yX1_breakUmbrella wsX1_breakUmbrella ({ frames := 1, cells := 0, slots := 0, locals := 22 }) (pW D (tyv cI cZ cC) (wX1 cI hd hy ay oy ++ wX0 cI hd ad od) sz [.ref hy, .int p0]) (va_Qv (fun (u : OV × OV) => u = fX1_breakUmbrella oy od p0) (qW D (fun (u : OV × OV) => wX1 cI hd hy ay u.2 ++ wX0 cI hd ad u.1) (va_A (wX1 cI hd hy ay oy ++ wX0 cI hd ad od) sz)) (va_A (wX1 cI hd hy ay oy ++ wX0 cI hd ad od) sz)) 0 0 (va_A (wX1 cI hd hy ay oy ++ wX0 cI hd ad od) sz) := by
  refine Met.ofW (cc := cX1_breakUmbrella) (maxL := 2) (ret := none) (by decide) rfl ?_
  intro p e s m args below meth c s₁ B hml hv
  obtain ⟨rfl, hsz, hP, hK, hN, hD0⟩ := hv
  have hx := B.exec
  have hb := B.bytes
  have hr := B.returns
  have hts := atoms_spec (ws := wsX1_breakUmbrella) B.pre
  have hown : s.vm.findClass RX1 = some m.cls := findClass_of_methodNamed B.named
  have hlocks := B.notSynchronized
  subst hsz
  have hD := hD0.self (sz := s.heap.size)
  generalize hAe : va_A (wX1 cI hd hy ay oy ++ wX0 cI hd ad od) s.heap.size = A at hD ⊢
  have hA : ∀ q : Nat, s.heap.size ≤ q → A q := fun q h => by rw [← hAe]; exact Or.inr h
  have hS : va_S A s.heap s.heap [] := va_S.rf
  have hP : va_P D vwCl (wX1 cI hd hy ay oy ++ wX0 cI hd ad od) s.heap := hP
  have hl := lv_entry ([.ref hy, .int p0]) (n := 2) (Nat.le_of_ble_eq_true rfl)
  rw [lg_entry_eq]
  generalize (lg_sl ([.ref hy, .int p0]) ++ List.replicate (2 - (lg_sl ([.ref hy, .int p0])).length) Slot.unset).toArray = ls at hl ⊢
  have hl : lv_has ls 2 [(0, .ref hy), (1, .int p0)] := hl
  have hSF : CallFix p m c cX1_breakUmbrella 2 s _ wsX1_breakUmbrella RX1 := ⟨hx, hb, hml, hown, hts⟩
  have hi1 : ∀ w ∈ wsX10, w ∈ wsX1_breakUmbrella := by decide +kernel
  have hf12 : (Cond.fieldLink RX1 12 "UmbrellaVote$History" "city" "LUmbrellaVote$City;").before _ s = true := hts _ (by decide +kernel)
  have hi0 : ∀ w ∈ wsX00, w ∈ wsX1_breakUmbrella := by decide +kernel
  have hf86 : (Cond.fieldLink RX1 86 "UmbrellaVote$City" "holes" "I").before _ s = true := hts _ (by decide +kernel)
  have hf26 : (Cond.fieldLink RX1 26 "UmbrellaVote$History" "ruling" "I").before _ s = true := hts _ (by decide +kernel)
  refine lv_aload_n hx hb dX1_breakUmbrella_0 rfl (lv_at hl 0 rfl) ?_
  refine va_get (D := D) (ci := 1) (v := .ref hd) (C := RX1) (T := TX1) (N := 4) hx hb hts hi1 hown hK hP 0 rfl rfl 0 (by decide) hf12 (fun _ h9 => h9) rfl dX1_breakUmbrella_1 ?_
  refine lv_aload_n hx hb dX1_breakUmbrella_4 rfl (lv_at hl 0 rfl) ?_
  refine va_get (D := D) (ci := 1) (v := .ref hd) (C := RX1) (T := TX1) (N := 4) hx hb hts hi1 hown hK hP 0 rfl rfl 0 (by decide) hf12 (fun _ h9 => h9) rfl dX1_breakUmbrella_5 ?_
  refine va_get (D := D) (ci := 0) (v := .int (od.1 3)) (C := RX0) (T := TX0) (N := 12) hx hb hts hi0 hown hK hP 2 rfl rfl 3 (by decide) hf86 (fun _ h9 => h9) rfl dX1_breakUmbrella_8 ?_
  refine lv_iload_n hx hb dX1_breakUmbrella_11 rfl (lv_at hl 1 rfl) ?_
  refine lv_iconst (v := 1) hx hb dX1_breakUmbrella_12 (by decide) ?_
  refine rcNi (As := [.int (od.1 3), .int p0, .int 1]) (rest := [.ref hd]) hSF (kX4_withBit l D cI cZ cC (od.1 3) p0 1) (va_cnB 3 hts gX1_breakUmbrella_X4_withBit_n89 rfl rfl rfl (hN.1 (.methodLinkNest RX1 89 yX4_withBit "UmbrellaVote") (by decide +kernel)) (hts (.initialized RX4) (by decide +kernel)) (by decide +kernel) ⟨Nat.le_of_ble_eq_true rfl, Nat.le_of_ble_eq_true rfl⟩) (hts (.static yX4_withBit) (by decide +kernel)) (hP.sub [] rfl) hK hN rfl rfl hl.1 (Nat.le_of_ble_eq_true rfl) dX1_breakUmbrella_13 ⟨Nat.zero_le _, Nat.zero_le _⟩ ?_
  refine va_put (D := D) (ci := 0) (v := .int (fX4_withBit (od.1 3) p0 1)) (ty := .int) (C := RX0) (T := TX0) (N := 12) hx hb hts hi0 tyX0 tyX0_ok nmX0 hown hK hP hD hS 2 rfl rfl 3 (by decide) hf86 (fun _ h9 => h9) rfl (by decide +kernel) rfl rfl (Nat.le_of_ble_eq_true rfl) dX1_breakUmbrella_16 (fun H locs hP hD hS => ?_)
  have hP : va_P D vwCl (wX1 cI hd hy ay oy ++ wX0 cI hd ad (us od 3 (fX4_withBit (od.1 3) p0 1))) H := hP
  have hD : va_D A (wX1 cI hd hy ay oy ++ wX0 cI hd ad (us od 3 (fX4_withBit (od.1 3) p0 1))) := hD
  refine lv_aload_n hx hb dX1_breakUmbrella_19 rfl (lv_at hl 0 rfl) ?_
  refine lv_aload_n hx hb dX1_breakUmbrella_20 rfl (lv_at hl 0 rfl) ?_
  refine va_get (D := D) (ci := 1) (v := .int (oy.1 2)) (C := RX1) (T := TX1) (N := 4) hx hb hts hi1 hown hK hP 0 rfl rfl 2 (by decide) hf26 (fun _ h9 => h9) rfl dX1_breakUmbrella_21 ?_
  refine lv_iload_n hx hb dX1_breakUmbrella_24 rfl (lv_at hl 1 rfl) ?_
  refine lv_iconst (v := 0) hx hb dX1_breakUmbrella_25 (by decide) ?_
  refine rcNi (As := [.int (oy.1 2), .int p0, .int 0]) (rest := [.ref hy]) hSF (kX4_withBit l D cI cZ cC (oy.1 2) p0 0) (va_cnB 3 hts gX1_breakUmbrella_X4_withBit_n89 rfl rfl rfl (hN.1 (.methodLinkNest RX1 89 yX4_withBit "UmbrellaVote") (by decide +kernel)) (hts (.initialized RX4) (by decide +kernel)) (by decide +kernel) ⟨Nat.le_of_ble_eq_true rfl, Nat.le_of_ble_eq_true rfl⟩) (hts (.static yX4_withBit) (by decide +kernel)) (hP.sub [] rfl) hK hN rfl rfl hl.1 (Nat.le_of_ble_eq_true rfl) dX1_breakUmbrella_26 ⟨Nat.zero_le _, Nat.zero_le _⟩ ?_
  refine wcVv (b := hy) (As := [.int (fX4_withBit (oy.1 2) p0 0)]) (rest := []) (wr := [(hd, .inr (0, [.int ((us od 3 (fX4_withBit (od.1 3) p0 1)).1 0), .int ((us od 3 (fX4_withBit (od.1 3) p0 1)).1 1), .int ((us od 3 (fX4_withBit (od.1 3) p0 1)).1 2), .int ((us od 3 (fX4_withBit (od.1 3) p0 1)).1 3), .int ((us od 3 (fX4_withBit (od.1 3) p0 1)).1 4), .int ((us od 3 (fX4_withBit (od.1 3) p0 1)).1 5), .int ((us od 3 (fX4_withBit (od.1 3) p0 1)).1 6), .ref (ad 7), .ref (ad 8), .ref (ad 9), .ref (ad 10), .ref (ad 11)])), (ad 7, .inl (cI, 6, .inl ((us od 3 (fX4_withBit (od.1 3) p0 1)).2 7))), (ad 8, .inl (cI, 6, .inl ((us od 3 (fX4_withBit (od.1 3) p0 1)).2 8))), (ad 9, .inl (cI, 10, .inl ((us od 3 (fX4_withBit (od.1 3) p0 1)).2 9))), (ad 10, .inl (cI, 6, .inl ((us od 3 (fX4_withBit (od.1 3) p0 1)).2 10))), (ad 11, .inl (cI, 6, .inl ((us od 3 (fX4_withBit (od.1 3) p0 1)).2 11)))]) (ws' := wX1 cI hd hy ay (fX1_become oy (fX4_withBit (oy.1 2) p0 0)) ++ wX0 cI hd ad (us od 3 (fX4_withBit (od.1 3) p0 1))) hSF (kX1_become l D cI cZ cC hy ay oy hd (fX4_withBit (oy.1 2) p0 0)) (cwV 1 hts gX1_breakUmbrella_X1_become rfl rfl rfl (by decide +kernel) ⟨Nat.le_of_ble_eq_true rfl, Nat.le_of_ble_eq_true rfl⟩) (va_recv hK hP (ci := 1) (q0 := 0) rfl rfl) hP hD hS hA hK hN [0, 1] [2, 3, 4, 5, 6, 7] [6, 7, 0, 1, 2, 3, 4, 5] rfl (by decide) rfl (by decide) (by decide) rfl (by decide) rfl rfl hl.1 (Nat.le_of_ble_eq_true rfl) dX1_breakUmbrella_29 ⟨Nat.zero_le _, Nat.zero_le _⟩ (fun H locs hP hD hS => ?_)
  have e9 : fX1_breakUmbrella oy od p0 = ((us od 3 (fX4_withBit (od.1 3) p0 1)), (fX1_become oy (fX4_withBit (oy.1 2) p0 0))) := by
    rfl
  exact W.vret hx hb hr (fun t ht hW => ⟨⟨((us od 3 (fX4_withBit (od.1 3) p0 1)), (fX1_become oy (fX4_withBit (oy.1 2) p0 0))), rfl, e9.symm, ⟨by rw [ht]; exact hP, hD⟩⟩, hS.F ht⟩) hS.2.2 dX1_breakUmbrella_32

set_option maxHeartbeats 4000000 in
set_option maxRecDepth 100000 in
theorem kX1_pass (l : Launch) (D : va_G) (cI cZ cC : ClassId) (hy : Nat) (ay : Nat → Nat) (oy : OV) (hd : Nat) (ad : Nat → Nat) (od : OV) (p0 : Int32)  {sz : Nat} : Met l yX1_pass wsX1_pass ({ frames := 1, cells := 0, slots := 0, locals := 21 }) (pW D (tyv cI cZ cC) (wX1 cI hd hy ay oy ++ wX0 cI hd ad od) sz [.ref hy, .int p0]) (va_Qv (fun (u : OV) => u = fX1_pass oy od p0) (qW D (fun (u : OV) => wX1 cI hd hy ay u ++ wX0 cI hd ad od) (va_A (wX1 cI hd hy ay oy ++ wX0 cI hd ad od) sz)) (va_A (wX1 cI hd hy ay oy ++ wX0 cI hd ad od) sz)) 0 0 (va_A (wX1 cI hd hy ay oy ++ wX0 cI hd ad od) sz) := by
  refine Met.ofW (cc := cX1_pass) (maxL := 3) (ret := none) (by decide) rfl ?_
  intro p e s m args below meth c s₁ B hml hv
  obtain ⟨rfl, hsz, hP, hK, hN, hD0⟩ := hv
  have hx := B.exec
  have hb := B.bytes
  have hr := B.returns
  have hts := atoms_spec (ws := wsX1_pass) B.pre
  have hown : s.vm.findClass RX1 = some m.cls := findClass_of_methodNamed B.named
  have hlocks := B.notSynchronized
  subst hsz
  have hD := hD0.self (sz := s.heap.size)
  generalize hAe : va_A (wX1 cI hd hy ay oy ++ wX0 cI hd ad od) s.heap.size = A at hD ⊢
  have hA : ∀ q : Nat, s.heap.size ≤ q → A q := fun q h => by rw [← hAe]; exact Or.inr h
  have hS : va_S A s.heap s.heap [] := va_S.rf
  have hP : va_P D vwCl (wX1 cI hd hy ay oy ++ wX0 cI hd ad od) s.heap := hP
  have hl := lv_entry ([.ref hy, .int p0]) (n := 3) (Nat.le_of_ble_eq_true rfl)
  rw [lg_entry_eq]
  generalize (lg_sl ([.ref hy, .int p0]) ++ List.replicate (3 - (lg_sl ([.ref hy, .int p0])).length) Slot.unset).toArray = ls at hl ⊢
  have hl : lv_has ls 3 [(0, .ref hy), (1, .int p0)] := hl
  have hSF : CallFix p m c cX1_pass 3 s _ wsX1_pass RX1 := ⟨hx, hb, hml, hown, hts⟩
  have hi1 : ∀ w ∈ wsX10, w ∈ wsX1_pass := by decide +kernel
  have hf18 : (Cond.fieldLink RX1 18 "UmbrellaVote$History" "years" "[I").before _ s = true := hts _ (by decide +kernel)
  have hf26 : (Cond.fieldLink RX1 26 "UmbrellaVote$History" "ruling" "I").before _ s = true := hts _ (by decide +kernel)
  have hf12 : (Cond.fieldLink RX1 12 "UmbrellaVote$History" "city" "LUmbrellaVote$City;").before _ s = true := hts _ (by decide +kernel)
  have hi0 : ∀ w ∈ wsX00, w ∈ wsX1_pass := by decide +kernel
  have hf97 : (Cond.fieldLink RX1 97 "UmbrellaVote$City" "cotton" "I").before _ s = true := hts _ (by decide +kernel)
  refine lv_iconst (v := 0) hx hb dX1_pass_0 (by decide) ?_
  refine lv_istore_n (lv' := [(2, .int 0), (0, .ref hy), (1, .int p0)]) hx hb dX1_pass_1 rfl hl (by decide) rfl (fun ls hl => ?_)
  refine W_lpW (6) (fun k9 H9 locs9 ls9 => va_P D vwCl (wX1 cI hd hy ay (fX1_pass_L2 p0 oy k9) ++ wX0 cI hd ad od) H9 ∧ va_D A (wX1 cI hd hy ay (fX1_pass_L2 p0 oy k9) ++ wX0 cI hd ad od) ∧ va_S A s.heap H9 locs9 ∧ lv_has ls9 3 [(2, .int (nI k9)), (0, .ref hy), (1, .int p0)]) ⟨hP, hD, hS, lv_sub hl [0, 1, 2] rfl⟩ ?_ ?_
  · intro k1 H locs ls hk1 hI9 ih1
    obtain ⟨hP, hD, hS, hl⟩ := hI9
    generalize hs1 : fX1_pass_L2 p0 oy k1 = y1 at hP hD hl
    obtain ⟨oy1, en1⟩ : ∃ z, z = y1 := ⟨_, rfl⟩
    subst en1
    have hP : va_P D vwCl (wX1 cI hd hy ay oy1 ++ wX0 cI hd ad od) H := hP
    have hD : va_D A (wX1 cI hd hy ay oy1 ++ wX0 cI hd ad od) := hD
    have hl : lv_has ls 3 [(2, .int (nI k1)), (0, .ref hy), (1, .int p0)] := hl
    refine lv_iload_n hx hb dX1_pass_2 rfl (lv_at hl 0 rfl) ?_
    refine lv_bipush (v := 6) hx hb dX1_pass_3 (by decide) ?_
    refine lv_icmp_ge (tgt := 39) hx hb dX1_pass_5 (by decide) (fun c2 => absurd c2 (nI_ge hk1 (by decide))) (fun c2 => ?_)
    refine lv_aload_n hx hb dX1_pass_8 rfl (lv_at hl 1 rfl) ?_
    refine va_get (D := D) (ci := 1) (v := .ref (ay 1)) (C := RX1) (T := TX1) (N := 4) hx hb hts hi1 hown hK hP 0 rfl rfl 1 (by decide) hf18 (fun _ h9 => h9) rfl dX1_pass_9 ?_
    refine lv_iload_n hx hb dX1_pass_12 rfl (lv_at hl 0 rfl) ?_
    refine lv_dup2_11 hx hb dX1_pass_13 rfl rfl ?_
    refine va_iald (f := (oy1.2 1)) hx hb hK hP 1 0 rfl rfl (vp_in_nI (Nat.lt_of_lt_of_le hk1 (by decide)) (by decide)) dX1_pass_14 ?_
    refine lv_aload_n hx hb dX1_pass_15 rfl (lv_at hl 1 rfl) ?_
    refine va_get (D := D) (ci := 1) (v := .int (oy1.1 2)) (C := RX1) (T := TX1) (N := 4) hx hb hts hi1 hown hK hP 0 rfl rfl 2 (by decide) hf26 (fun _ h9 => h9) rfl dX1_pass_16 ?_
    refine lv_iload_n hx hb dX1_pass_19 rfl (lv_at hl 0 rfl) ?_
    refine rcNi (As := [.int (oy1.1 2), .int (nI k1)]) (rest := [.int ((oy1.2 1) (nI k1).toNatClampNeg), .int (nI k1), .ref (ay 1)]) hSF (kX4_hasBit l D cI cZ cC (oy1.1 2) (nI k1)) (va_cnB 2 hts gX1_pass_X4_hasBit_n93 rfl rfl rfl (hN.1 (.methodLinkNest RX1 93 yX4_hasBit "UmbrellaVote") (by decide +kernel)) (hts (.initialized RX4) (by decide +kernel)) (by decide +kernel) ⟨Nat.le_of_ble_eq_true rfl, Nat.le_of_ble_eq_true rfl⟩) (hts (.static yX4_hasBit) (by decide +kernel)) (hP.sub [] rfl) hK hN rfl rfl hl.1 (Nat.le_of_ble_eq_true rfl) dX1_pass_20 ⟨Nat.zero_le _, Nat.zero_le _⟩ ?_
    refine W_itei (P := (fX4_hasBit (oy1.1 2) (nI k1)) = 0) (a := 0) (b := p0) (J := 31) (ls9 := ls) (rest9 := [.int ((oy1.2 1) (nI k1).toNatClampNeg), .int (nI k1), .ref (ay 1)]) (fun ja4 jb4 => ?_) ?_
    · refine lv_if_eq (tgt := 30) hx hb dX1_pass_23 (by decide) (fun c3 => ?_) (fun c3 => ?_)
      · skip
        refine lv_iconst (v := 0) hx hb dX1_pass_30 (by decide) ?_
        exact ja4 c3
      · skip
        refine lv_iload_n hx hb dX1_pass_26 rfl (lv_at hl 2 rfl) ?_
        refine lv_goto (tgt := 31) hx hb dX1_pass_27 (by decide) ?_
        exact jb4 c3
    refine lv_iadd hx hb dX1_pass_31 ?_
    refine va_iast hx hb hK hP hD hS 1 0 rfl rfl (vp_in_nI (Nat.lt_of_lt_of_le hk1 (by decide)) (by decide)) dX1_pass_32 (fun H locs hP hD hS => ?_)
    have hP : va_P D vwCl (wX1 cI hd hy ay (ua oy1 1 (nI k1).toNatClampNeg (((oy1.2 1) (nI k1).toNatClampNeg) + (if (fX4_hasBit (oy1.1 2) (nI k1)) = 0 then (0 : Int32) else p0))) ++ wX0 cI hd ad od) H := hP
    have hD : va_D A (wX1 cI hd hy ay (ua oy1 1 (nI k1).toNatClampNeg (((oy1.2 1) (nI k1).toNatClampNeg) + (if (fX4_hasBit (oy1.1 2) (nI k1)) = 0 then (0 : Int32) else p0))) ++ wX0 cI hd ad od) := hD
    refine lv_iinc (v := ((nI k1) + 1)) (lv' := [(2, .int ((nI k1) + 1)), (0, .ref hy), (1, .int p0)]) hx hb dX1_pass_33 hl (k := 0) rfl rfl (by decide) rfl (fun ls hl => ?_)
    refine lv_goto (tgt := 2) hx hb dX1_pass_36 (by decide) ?_
    have e8 : fX1_pass_L2s p0 k1 oy1 = (ua oy1 1 (nI k1).toNatClampNeg (((oy1.2 1) (nI k1).toNatClampNeg) + (if (fX4_hasBit (oy1.1 2) (nI k1)) = 0 then (0 : Int32) else p0))) := by
      rfl
    have e7 : fX1_pass_L2 p0 oy (k1 + 1) = (ua oy1 1 (nI k1).toNatClampNeg (((oy1.2 1) (nI k1).toNatClampNeg) + (if (fX4_hasBit (oy1.1 2) (nI k1)) = 0 then (0 : Int32) else p0))) := by
      show fX1_pass_L2s p0 k1 (fX1_pass_L2 p0 oy k1) = _
      rw [hs1]; exact e8
    have hl9 : lv_has ls 3 [(2, .int (nI (k1 + 1))), (0, .ref hy), (1, .int p0)] := by
      rw [nI_succ]; exact lv_sub hl [0, 1, 2] rfl
    exact ih1 H locs ls ⟨by rw [e7]; exact hP, by rw [e7]; exact hD, hS, hl9⟩
  intro H locs ls hI9
  obtain ⟨hP, hD, hS, hl⟩ := hI9
  refine lv_iload_n hx hb dX1_pass_2 rfl (lv_at hl 0 rfl) ?_
  refine lv_bipush (v := 6) hx hb dX1_pass_3 (by decide) ?_
  refine lv_icmp_ge (tgt := 39) hx hb dX1_pass_5 (by decide) (fun c5 => ?_) (fun c5 => absurd (nI_le (Nat.le_refl _) (by decide)) c5)
  refine lv_aload_n hx hb dX1_pass_39 rfl (lv_at hl 1 rfl) ?_
  refine va_get (D := D) (ci := 1) (v := .ref (ay 1)) (C := RX1) (T := TX1) (N := 4) hx hb hts hi1 hown hK hP 0 rfl rfl 1 (by decide) hf18 (fun _ h9 => h9) rfl dX1_pass_40 ?_
  refine lv_bipush (v := 6) hx hb dX1_pass_43 (by decide) ?_
  refine lv_dup2_11 hx hb dX1_pass_45 rfl rfl ?_
  refine va_iald (f := ((fX1_pass_L2 p0 oy (6)).2 1)) hx hb hK hP 1 0 rfl rfl (vp_in_nI (n := 6) (by decide) (by decide)) dX1_pass_46 ?_
  refine lv_aload_n hx hb dX1_pass_47 rfl (lv_at hl 1 rfl) ?_
  refine va_get (D := D) (ci := 1) (v := .int ((fX1_pass_L2 p0 oy (6)).1 2)) (C := RX1) (T := TX1) (N := 4) hx hb hts hi1 hown hK hP 0 rfl rfl 2 (by decide) hf26 (fun _ h9 => h9) rfl dX1_pass_48 ?_
  refine lv_aload_n hx hb dX1_pass_51 rfl (lv_at hl 1 rfl) ?_
  refine va_get (D := D) (ci := 1) (v := .ref hd) (C := RX1) (T := TX1) (N := 4) hx hb hts hi1 hown hK hP 0 rfl rfl 0 (by decide) hf12 (fun _ h9 => h9) rfl dX1_pass_52 ?_
  refine va_get (D := D) (ci := 0) (v := .int (od.1 4)) (C := RX0) (T := TX0) (N := 12) hx hb hts hi0 hown hK hP 2 rfl rfl 4 (by decide) hf97 (fun _ h9 => h9) rfl dX1_pass_55 ?_
  refine lv_iconst (v := (-1)) hx hb dX1_pass_58 (by decide) ?_
  refine lv_ixor hx hb dX1_pass_59 ?_
  refine lv_iand hx hb dX1_pass_60 ?_
  refine W_itei (P := (((fX1_pass_L2 p0 oy (6)).1 2) &&& ((od.1 4) ^^^ (-1))) = 0) (a := 0) (b := p0) (J := 69) (ls9 := ls) (rest9 := [.int (((fX1_pass_L2 p0 oy (6)).2 1) (6 : Int32).toNatClampNeg), .int 6, .ref (ay 1)]) (fun ja7 jb7 => ?_) ?_
  · refine lv_if_eq (tgt := 68) hx hb dX1_pass_61 (by decide) (fun c6 => ?_) (fun c6 => ?_)
    · skip
      refine lv_iconst (v := 0) hx hb dX1_pass_68 (by decide) ?_
      exact ja7 c6
    · skip
      refine lv_iload_n hx hb dX1_pass_64 rfl (lv_at hl 2 rfl) ?_
      refine lv_goto (tgt := 69) hx hb dX1_pass_65 (by decide) ?_
      exact jb7 c6
  refine lv_iadd hx hb dX1_pass_69 ?_
  refine va_iast hx hb hK hP hD hS 1 0 rfl rfl (vp_in_nI (n := 6) (by decide) (by decide)) dX1_pass_70 (fun H locs hP hD hS => ?_)
  rw [sw_yd_y_a1] at hP hD
  have hP : va_P D vwCl (wX1 cI hd hy ay (ua (fX1_pass_L2 p0 oy (6)) 1 ((6 : Int32).toNatClampNeg) ((((fX1_pass_L2 p0 oy (6)).2 1) (6 : Int32).toNatClampNeg) + (if (((fX1_pass_L2 p0 oy (6)).1 2) &&& ((od.1 4) ^^^ (-1))) = 0 then (0 : Int32) else p0))) ++ wX0 cI hd ad od) H := hP
  have hD : va_D A (wX1 cI hd hy ay (ua (fX1_pass_L2 p0 oy (6)) 1 ((6 : Int32).toNatClampNeg) ((((fX1_pass_L2 p0 oy (6)).2 1) (6 : Int32).toNatClampNeg) + (if (((fX1_pass_L2 p0 oy (6)).1 2) &&& ((od.1 4) ^^^ (-1))) = 0 then (0 : Int32) else p0))) ++ wX0 cI hd ad od) := hD
  refine lv_aload_n hx hb dX1_pass_71 rfl (lv_at hl 1 rfl) ?_
  refine va_get (D := D) (ci := 1) (v := .ref (ay 1)) (C := RX1) (T := TX1) (N := 4) hx hb hts hi1 hown hK hP 0 rfl rfl 1 (by decide) hf18 (fun _ h9 => h9) rfl dX1_pass_72 ?_
  refine lv_bipush (v := 7) hx hb dX1_pass_75 (by decide) ?_
  refine lv_dup2_11 hx hb dX1_pass_77 rfl rfl ?_
  refine va_iald (f := ((ua (fX1_pass_L2 p0 oy (6)) 1 ((6 : Int32).toNatClampNeg) ((((fX1_pass_L2 p0 oy (6)).2 1) (6 : Int32).toNatClampNeg) + (if (((fX1_pass_L2 p0 oy (6)).1 2) &&& ((od.1 4) ^^^ (-1))) = 0 then (0 : Int32) else p0))).2 1)) hx hb hK hP 1 0 rfl rfl (vp_in_nI (n := 7) (by decide) (by decide)) dX1_pass_78 ?_
  refine lv_aload_n hx hb dX1_pass_79 rfl (lv_at hl 1 rfl) ?_
  refine va_get (D := D) (ci := 1) (v := .int ((fX1_pass_L2 p0 oy (6)).1 2)) (C := RX1) (T := TX1) (N := 4) hx hb hts hi1 hown hK hP 0 rfl rfl 2 (by decide) hf26 (fun _ h9 => h9) rfl dX1_pass_80 ?_
  refine lv_aload_n hx hb dX1_pass_83 rfl (lv_at hl 1 rfl) ?_
  refine va_get (D := D) (ci := 1) (v := .ref hd) (C := RX1) (T := TX1) (N := 4) hx hb hts hi1 hown hK hP 0 rfl rfl 0 (by decide) hf12 (fun _ h9 => h9) rfl dX1_pass_84 ?_
  refine va_get (D := D) (ci := 0) (v := .int (od.1 4)) (C := RX0) (T := TX0) (N := 12) hx hb hts hi0 hown hK hP 2 rfl rfl 4 (by decide) hf97 (fun _ h9 => h9) rfl dX1_pass_87 ?_
  refine lv_iand hx hb dX1_pass_90 ?_
  refine W_itei (P := (((fX1_pass_L2 p0 oy (6)).1 2) &&& (od.1 4)) = 0) (a := 0) (b := p0) (J := 99) (ls9 := ls) (rest9 := [.int (((ua (fX1_pass_L2 p0 oy (6)) 1 ((6 : Int32).toNatClampNeg) ((((fX1_pass_L2 p0 oy (6)).2 1) (6 : Int32).toNatClampNeg) + (if (((fX1_pass_L2 p0 oy (6)).1 2) &&& ((od.1 4) ^^^ (-1))) = 0 then (0 : Int32) else p0))).2 1) (7 : Int32).toNatClampNeg), .int 7, .ref (ay 1)]) (fun ja9 jb9 => ?_) ?_
  · refine lv_if_eq (tgt := 98) hx hb dX1_pass_91 (by decide) (fun c8 => ?_) (fun c8 => ?_)
    · skip
      refine lv_iconst (v := 0) hx hb dX1_pass_98 (by decide) ?_
      exact ja9 c8
    · skip
      refine lv_iload_n hx hb dX1_pass_94 rfl (lv_at hl 2 rfl) ?_
      refine lv_goto (tgt := 99) hx hb dX1_pass_95 (by decide) ?_
      exact jb9 c8
  refine lv_iadd hx hb dX1_pass_99 ?_
  refine va_iast hx hb hK hP hD hS 1 0 rfl rfl (vp_in_nI (n := 7) (by decide) (by decide)) dX1_pass_100 (fun H locs hP hD hS => ?_)
  rw [sw_yd_y_a1] at hP hD
  have hP : va_P D vwCl (wX1 cI hd hy ay (ua (ua (fX1_pass_L2 p0 oy (6)) 1 ((6 : Int32).toNatClampNeg) ((((fX1_pass_L2 p0 oy (6)).2 1) (6 : Int32).toNatClampNeg) + (if (((fX1_pass_L2 p0 oy (6)).1 2) &&& ((od.1 4) ^^^ (-1))) = 0 then (0 : Int32) else p0))) 1 ((7 : Int32).toNatClampNeg) ((((ua (fX1_pass_L2 p0 oy (6)) 1 ((6 : Int32).toNatClampNeg) ((((fX1_pass_L2 p0 oy (6)).2 1) (6 : Int32).toNatClampNeg) + (if (((fX1_pass_L2 p0 oy (6)).1 2) &&& ((od.1 4) ^^^ (-1))) = 0 then (0 : Int32) else p0))).2 1) (7 : Int32).toNatClampNeg) + (if (((fX1_pass_L2 p0 oy (6)).1 2) &&& (od.1 4)) = 0 then (0 : Int32) else p0))) ++ wX0 cI hd ad od) H := hP
  have hD : va_D A (wX1 cI hd hy ay (ua (ua (fX1_pass_L2 p0 oy (6)) 1 ((6 : Int32).toNatClampNeg) ((((fX1_pass_L2 p0 oy (6)).2 1) (6 : Int32).toNatClampNeg) + (if (((fX1_pass_L2 p0 oy (6)).1 2) &&& ((od.1 4) ^^^ (-1))) = 0 then (0 : Int32) else p0))) 1 ((7 : Int32).toNatClampNeg) ((((ua (fX1_pass_L2 p0 oy (6)) 1 ((6 : Int32).toNatClampNeg) ((((fX1_pass_L2 p0 oy (6)).2 1) (6 : Int32).toNatClampNeg) + (if (((fX1_pass_L2 p0 oy (6)).1 2) &&& ((od.1 4) ^^^ (-1))) = 0 then (0 : Int32) else p0))).2 1) (7 : Int32).toNatClampNeg) + (if (((fX1_pass_L2 p0 oy (6)).1 2) &&& (od.1 4)) = 0 then (0 : Int32) else p0))) ++ wX0 cI hd ad od) := hD
  refine lv_aload_n hx hb dX1_pass_101 rfl (lv_at hl 1 rfl) ?_
  refine va_get (D := D) (ci := 1) (v := .ref (ay 1)) (C := RX1) (T := TX1) (N := 4) hx hb hts hi1 hown hK hP 0 rfl rfl 1 (by decide) hf18 (fun _ h9 => h9) rfl dX1_pass_102 ?_
  refine lv_bipush (v := 8) hx hb dX1_pass_105 (by decide) ?_
  refine lv_dup2_11 hx hb dX1_pass_107 rfl rfl ?_
  refine va_iald (f := ((ua (ua (fX1_pass_L2 p0 oy (6)) 1 ((6 : Int32).toNatClampNeg) ((((fX1_pass_L2 p0 oy (6)).2 1) (6 : Int32).toNatClampNeg) + (if (((fX1_pass_L2 p0 oy (6)).1 2) &&& ((od.1 4) ^^^ (-1))) = 0 then (0 : Int32) else p0))) 1 ((7 : Int32).toNatClampNeg) ((((ua (fX1_pass_L2 p0 oy (6)) 1 ((6 : Int32).toNatClampNeg) ((((fX1_pass_L2 p0 oy (6)).2 1) (6 : Int32).toNatClampNeg) + (if (((fX1_pass_L2 p0 oy (6)).1 2) &&& ((od.1 4) ^^^ (-1))) = 0 then (0 : Int32) else p0))).2 1) (7 : Int32).toNatClampNeg) + (if (((fX1_pass_L2 p0 oy (6)).1 2) &&& (od.1 4)) = 0 then (0 : Int32) else p0))).2 1)) hx hb hK hP 1 0 rfl rfl (vp_in_nI (n := 8) (by decide) (by decide)) dX1_pass_108 ?_
  refine lv_aload_n hx hb dX1_pass_109 rfl (lv_at hl 1 rfl) ?_
  refine va_get (D := D) (ci := 1) (v := .int ((fX1_pass_L2 p0 oy (6)).1 2)) (C := RX1) (T := TX1) (N := 4) hx hb hts hi1 hown hK hP 0 rfl rfl 2 (by decide) hf26 (fun _ h9 => h9) rfl dX1_pass_110 ?_
  refine W_itei (P := ((fX1_pass_L2 p0 oy (6)).1 2) = 0) (a := p0) (b := 0) (J := 121) (ls9 := ls) (rest9 := [.int (((ua (ua (fX1_pass_L2 p0 oy (6)) 1 ((6 : Int32).toNatClampNeg) ((((fX1_pass_L2 p0 oy (6)).2 1) (6 : Int32).toNatClampNeg) + (if (((fX1_pass_L2 p0 oy (6)).1 2) &&& ((od.1 4) ^^^ (-1))) = 0 then (0 : Int32) else p0))) 1 ((7 : Int32).toNatClampNeg) ((((ua (fX1_pass_L2 p0 oy (6)) 1 ((6 : Int32).toNatClampNeg) ((((fX1_pass_L2 p0 oy (6)).2 1) (6 : Int32).toNatClampNeg) + (if (((fX1_pass_L2 p0 oy (6)).1 2) &&& ((od.1 4) ^^^ (-1))) = 0 then (0 : Int32) else p0))).2 1) (7 : Int32).toNatClampNeg) + (if (((fX1_pass_L2 p0 oy (6)).1 2) &&& (od.1 4)) = 0 then (0 : Int32) else p0))).2 1) (8 : Int32).toNatClampNeg), .int 8, .ref (ay 1)]) (fun ja11 jb11 => ?_) ?_
  · refine lv_if_ne (tgt := 120) hx hb dX1_pass_113 (by decide) (fun c10 => ?_) (fun c10 => ?_)
    · skip
      refine lv_iconst (v := 0) hx hb dX1_pass_120 (by decide) ?_
      exact jb11 c10
    · skip
      refine lv_iload_n hx hb dX1_pass_116 rfl (lv_at hl 2 rfl) ?_
      refine lv_goto (tgt := 121) hx hb dX1_pass_117 (by decide) ?_
      exact ja11 c10
  refine lv_iadd hx hb dX1_pass_121 ?_
  refine va_iast hx hb hK hP hD hS 1 0 rfl rfl (vp_in_nI (n := 8) (by decide) (by decide)) dX1_pass_122 (fun H locs hP hD hS => ?_)
  rw [sw_yd_y_a1] at hP hD
  have hP : va_P D vwCl (wX1 cI hd hy ay (ua (ua (ua (fX1_pass_L2 p0 oy (6)) 1 ((6 : Int32).toNatClampNeg) ((((fX1_pass_L2 p0 oy (6)).2 1) (6 : Int32).toNatClampNeg) + (if (((fX1_pass_L2 p0 oy (6)).1 2) &&& ((od.1 4) ^^^ (-1))) = 0 then (0 : Int32) else p0))) 1 ((7 : Int32).toNatClampNeg) ((((ua (fX1_pass_L2 p0 oy (6)) 1 ((6 : Int32).toNatClampNeg) ((((fX1_pass_L2 p0 oy (6)).2 1) (6 : Int32).toNatClampNeg) + (if (((fX1_pass_L2 p0 oy (6)).1 2) &&& ((od.1 4) ^^^ (-1))) = 0 then (0 : Int32) else p0))).2 1) (7 : Int32).toNatClampNeg) + (if (((fX1_pass_L2 p0 oy (6)).1 2) &&& (od.1 4)) = 0 then (0 : Int32) else p0))) 1 ((8 : Int32).toNatClampNeg) ((((ua (ua (fX1_pass_L2 p0 oy (6)) 1 ((6 : Int32).toNatClampNeg) ((((fX1_pass_L2 p0 oy (6)).2 1) (6 : Int32).toNatClampNeg) + (if (((fX1_pass_L2 p0 oy (6)).1 2) &&& ((od.1 4) ^^^ (-1))) = 0 then (0 : Int32) else p0))) 1 ((7 : Int32).toNatClampNeg) ((((ua (fX1_pass_L2 p0 oy (6)) 1 ((6 : Int32).toNatClampNeg) ((((fX1_pass_L2 p0 oy (6)).2 1) (6 : Int32).toNatClampNeg) + (if (((fX1_pass_L2 p0 oy (6)).1 2) &&& ((od.1 4) ^^^ (-1))) = 0 then (0 : Int32) else p0))).2 1) (7 : Int32).toNatClampNeg) + (if (((fX1_pass_L2 p0 oy (6)).1 2) &&& (od.1 4)) = 0 then (0 : Int32) else p0))).2 1) (8 : Int32).toNatClampNeg) + (if ((fX1_pass_L2 p0 oy (6)).1 2) = 0 then p0 else 0))) ++ wX0 cI hd ad od) H := hP
  have hD : va_D A (wX1 cI hd hy ay (ua (ua (ua (fX1_pass_L2 p0 oy (6)) 1 ((6 : Int32).toNatClampNeg) ((((fX1_pass_L2 p0 oy (6)).2 1) (6 : Int32).toNatClampNeg) + (if (((fX1_pass_L2 p0 oy (6)).1 2) &&& ((od.1 4) ^^^ (-1))) = 0 then (0 : Int32) else p0))) 1 ((7 : Int32).toNatClampNeg) ((((ua (fX1_pass_L2 p0 oy (6)) 1 ((6 : Int32).toNatClampNeg) ((((fX1_pass_L2 p0 oy (6)).2 1) (6 : Int32).toNatClampNeg) + (if (((fX1_pass_L2 p0 oy (6)).1 2) &&& ((od.1 4) ^^^ (-1))) = 0 then (0 : Int32) else p0))).2 1) (7 : Int32).toNatClampNeg) + (if (((fX1_pass_L2 p0 oy (6)).1 2) &&& (od.1 4)) = 0 then (0 : Int32) else p0))) 1 ((8 : Int32).toNatClampNeg) ((((ua (ua (fX1_pass_L2 p0 oy (6)) 1 ((6 : Int32).toNatClampNeg) ((((fX1_pass_L2 p0 oy (6)).2 1) (6 : Int32).toNatClampNeg) + (if (((fX1_pass_L2 p0 oy (6)).1 2) &&& ((od.1 4) ^^^ (-1))) = 0 then (0 : Int32) else p0))) 1 ((7 : Int32).toNatClampNeg) ((((ua (fX1_pass_L2 p0 oy (6)) 1 ((6 : Int32).toNatClampNeg) ((((fX1_pass_L2 p0 oy (6)).2 1) (6 : Int32).toNatClampNeg) + (if (((fX1_pass_L2 p0 oy (6)).1 2) &&& ((od.1 4) ^^^ (-1))) = 0 then (0 : Int32) else p0))).2 1) (7 : Int32).toNatClampNeg) + (if (((fX1_pass_L2 p0 oy (6)).1 2) &&& (od.1 4)) = 0 then (0 : Int32) else p0))).2 1) (8 : Int32).toNatClampNeg) + (if ((fX1_pass_L2 p0 oy (6)).1 2) = 0 then p0 else 0))) ++ wX0 cI hd ad od) := hD
  have e9 : fX1_pass oy od p0 = (ua (ua (ua (fX1_pass_L2 p0 oy (6)) 1 ((6 : Int32).toNatClampNeg) ((((fX1_pass_L2 p0 oy (6)).2 1) (6 : Int32).toNatClampNeg) + (if (((fX1_pass_L2 p0 oy (6)).1 2) &&& ((od.1 4) ^^^ (-1))) = 0 then (0 : Int32) else p0))) 1 ((7 : Int32).toNatClampNeg) ((((ua (fX1_pass_L2 p0 oy (6)) 1 ((6 : Int32).toNatClampNeg) ((((fX1_pass_L2 p0 oy (6)).2 1) (6 : Int32).toNatClampNeg) + (if (((fX1_pass_L2 p0 oy (6)).1 2) &&& ((od.1 4) ^^^ (-1))) = 0 then (0 : Int32) else p0))).2 1) (7 : Int32).toNatClampNeg) + (if (((fX1_pass_L2 p0 oy (6)).1 2) &&& (od.1 4)) = 0 then (0 : Int32) else p0))) 1 ((8 : Int32).toNatClampNeg) ((((ua (ua (fX1_pass_L2 p0 oy (6)) 1 ((6 : Int32).toNatClampNeg) ((((fX1_pass_L2 p0 oy (6)).2 1) (6 : Int32).toNatClampNeg) + (if (((fX1_pass_L2 p0 oy (6)).1 2) &&& ((od.1 4) ^^^ (-1))) = 0 then (0 : Int32) else p0))) 1 ((7 : Int32).toNatClampNeg) ((((ua (fX1_pass_L2 p0 oy (6)) 1 ((6 : Int32).toNatClampNeg) ((((fX1_pass_L2 p0 oy (6)).2 1) (6 : Int32).toNatClampNeg) + (if (((fX1_pass_L2 p0 oy (6)).1 2) &&& ((od.1 4) ^^^ (-1))) = 0 then (0 : Int32) else p0))).2 1) (7 : Int32).toNatClampNeg) + (if (((fX1_pass_L2 p0 oy (6)).1 2) &&& (od.1 4)) = 0 then (0 : Int32) else p0))).2 1) (8 : Int32).toNatClampNeg) + (if ((fX1_pass_L2 p0 oy (6)).1 2) = 0 then p0 else 0))) := by
    rfl
  exact W.vret hx hb hr (fun t ht hW => ⟨⟨(ua (ua (ua (fX1_pass_L2 p0 oy (6)) 1 ((6 : Int32).toNatClampNeg) ((((fX1_pass_L2 p0 oy (6)).2 1) (6 : Int32).toNatClampNeg) + (if (((fX1_pass_L2 p0 oy (6)).1 2) &&& ((od.1 4) ^^^ (-1))) = 0 then (0 : Int32) else p0))) 1 ((7 : Int32).toNatClampNeg) ((((ua (fX1_pass_L2 p0 oy (6)) 1 ((6 : Int32).toNatClampNeg) ((((fX1_pass_L2 p0 oy (6)).2 1) (6 : Int32).toNatClampNeg) + (if (((fX1_pass_L2 p0 oy (6)).1 2) &&& ((od.1 4) ^^^ (-1))) = 0 then (0 : Int32) else p0))).2 1) (7 : Int32).toNatClampNeg) + (if (((fX1_pass_L2 p0 oy (6)).1 2) &&& (od.1 4)) = 0 then (0 : Int32) else p0))) 1 ((8 : Int32).toNatClampNeg) ((((ua (ua (fX1_pass_L2 p0 oy (6)) 1 ((6 : Int32).toNatClampNeg) ((((fX1_pass_L2 p0 oy (6)).2 1) (6 : Int32).toNatClampNeg) + (if (((fX1_pass_L2 p0 oy (6)).1 2) &&& ((od.1 4) ^^^ (-1))) = 0 then (0 : Int32) else p0))) 1 ((7 : Int32).toNatClampNeg) ((((ua (fX1_pass_L2 p0 oy (6)) 1 ((6 : Int32).toNatClampNeg) ((((fX1_pass_L2 p0 oy (6)).2 1) (6 : Int32).toNatClampNeg) + (if (((fX1_pass_L2 p0 oy (6)).1 2) &&& ((od.1 4) ^^^ (-1))) = 0 then (0 : Int32) else p0))).2 1) (7 : Int32).toNatClampNeg) + (if (((fX1_pass_L2 p0 oy (6)).1 2) &&& (od.1 4)) = 0 then (0 : Int32) else p0))).2 1) (8 : Int32).toNatClampNeg) + (if ((fX1_pass_L2 p0 oy (6)).1 2) = 0 then p0 else 0))), rfl, e9.symm, ⟨by rw [ht]; exact hP, hD⟩⟩, hS.F ht⟩) hS.2.2 dX1_pass_123

set_option maxHeartbeats 4000000 in
set_option maxRecDepth 100000 in
theorem kX1_yearsOf (l : Launch) (D : va_G) (cI cZ cC : ClassId) (hy : Nat) (ay : Nat → Nat) (oy : OV) (ey : Nat) (p0 : Int32)  : Met l yX1_yearsOf wsX1_yearsOf ({ frames := 1, cells := 0, slots := 0, locals := 22 }) (pR D (tyv cI cZ cC) (wX1 cI ey hy ay oy) [.ref hy, .int p0]) (vp_Si (fun r => r = fX1_yearsOf oy p0)) 0 0 (fun _ => False) := by
  refine Met.ofW (cc := cX1_yearsOf) (maxL := 2) (ret := (some .int)) (by decide) rfl ?_
  intro p e s m args below meth c s₁ B hml hv
  obtain ⟨rfl, hP, hK, hN⟩ := hv
  have hx := B.exec
  have hb := B.bytes
  have hr := B.returns
  have hts := atoms_spec (ws := wsX1_yearsOf) B.pre
  have hown : s.vm.findClass RX1 = some m.cls := findClass_of_methodNamed B.named
  have hlocks := B.notSynchronized
  have hP : va_P D vwCl (wX1 cI ey hy ay oy) s.heap := hP
  have hl := lv_entry ([.ref hy, .int p0]) (n := 2) (Nat.le_of_ble_eq_true rfl)
  rw [lg_entry_eq]
  generalize (lg_sl ([.ref hy, .int p0]) ++ List.replicate (2 - (lg_sl ([.ref hy, .int p0])).length) Slot.unset).toArray = ls at hl ⊢
  have hl : lv_has ls 2 [(0, .ref hy), (1, .int p0)] := hl
  have hSF : CallFix p m c cX1_yearsOf 2 s _ wsX1_yearsOf RX1 := ⟨hx, hb, hml, hown, hts⟩
  have hi1 : ∀ w ∈ wsX10, w ∈ wsX1_yearsOf := by decide +kernel
  have hf18 : (Cond.fieldLink RX1 18 "UmbrellaVote$History" "years" "[I").before _ s = true := hts _ (by decide +kernel)
  refine lv_iload_n hx hb dX1_yearsOf_0 rfl (lv_at hl 1 rfl) ?_
  refine lv_iconst (v := 0) hx hb dX1_yearsOf_1 (by decide) ?_
  refine lv_bipush (v := 8) hx hb dX1_yearsOf_2 (by decide) ?_
  refine rcNi (As := [.int p0, .int 0, .int 8]) (rest := []) hSF (kX4_within l D cI cZ cC p0 0 8) (va_cnB 3 hts gX1_yearsOf_X4_within_n100 rfl rfl rfl (hN.1 (.methodLinkNest RX1 100 yX4_within "UmbrellaVote") (by decide +kernel)) (hts (.initialized RX4) (by decide +kernel)) (by decide +kernel) ⟨Nat.le_of_ble_eq_true rfl, Nat.le_of_ble_eq_true rfl⟩) (hts (.static yX4_within) (by decide +kernel)) (hP.sub [] rfl) hK hN rfl rfl hl.1 (Nat.le_of_ble_eq_true rfl) dX1_yearsOf_4 ⟨Nat.zero_le _, Nat.zero_le _⟩ ?_
  refine W_itei (P := (fX4_within p0 0 8) = 0) (a := 0) (b := ((oy.2 1) p0.toNatClampNeg)) (J := 20) (ls9 := ls) (rest9 := []) (fun ja2 jb2 => ?_) ?_
  · refine lv_if_eq (tgt := 19) hx hb dX1_yearsOf_7 (by decide) (fun c1 => ?_) (fun c1 => ?_)
    · skip
      refine lv_iconst (v := 0) hx hb dX1_yearsOf_19 (by decide) ?_
      exact ja2 c1
    · skip
      refine lv_aload_n hx hb dX1_yearsOf_10 rfl (lv_at hl 0 rfl) ?_
      refine va_get (D := D) (ci := 1) (v := .ref (ay 1)) (C := RX1) (T := TX1) (N := 4) hx hb hts hi1 hown hK hP 0 rfl rfl 1 (by decide) hf18 (fun _ h9 => h9) rfl dX1_yearsOf_11 ?_
      refine lv_iload_n hx hb dX1_yearsOf_14 rfl (lv_at hl 1 rfl) ?_
      refine va_iald (f := (oy.2 1)) hx hb hK hP 1 0 rfl rfl (wi9 (by with_reducible assumption)) dX1_yearsOf_15 ?_
      refine lv_goto (tgt := 20) hx hb dX1_yearsOf_16 (by decide) ?_
      exact jb2 c1
  have e9 : fX1_yearsOf oy p0 = (if (fX4_within p0 0 8) = 0 then (0 : Int32) else ((oy.2 1) p0.toNatClampNeg)) := by
    rfl
  exact W.iret hx hb hr (fun t ht hW => ⟨_, rfl, e9.symm, ht⟩) (fun _ h9 => absurd h9 List.not_mem_nil) dX1_yearsOf_20

set_option maxHeartbeats 4000000 in
set_option maxRecDepth 100000 in
theorem kX1_happen (l : Launch) (D : va_G) (cI cZ cC : ClassId) (hy : Nat) (ay : Nat → Nat) (oy : OV) (hd : Nat) (ad : Nat → Nat) (od : OV) (p0 : Int32) (p1 : Int32)  {sz : Nat} : Met l yX1_happen wsX1_happen ({ frames := 4, cells := 0, slots := 0, locals := 94 }) (pW D (tyv cI cZ cC) (wX1 cI hd hy ay oy ++ wX0 cI hd ad od) sz [.ref hy, .int p0, .int p1]) (va_Qv (fun (u : OV × OV) => u = fX1_happen oy od p0 p1) (qW D (fun (u : OV × OV) => wX1 cI hd hy ay u.2 ++ wX0 cI hd ad u.1) (va_A (wX1 cI hd hy ay oy ++ wX0 cI hd ad od) sz)) (va_A (wX1 cI hd hy ay oy ++ wX0 cI hd ad od) sz)) 0 0 (va_A (wX1 cI hd hy ay oy ++ wX0 cI hd ad od) sz) := by
  refine Met.ofW (cc := cX1_happen) (maxL := 3) (ret := none) (by decide) rfl ?_
  intro p e s m args below meth c s₁ B hml hv
  obtain ⟨rfl, hsz, hP, hK, hN, hD0⟩ := hv
  have hx := B.exec
  have hb := B.bytes
  have hr := B.returns
  have hts := atoms_spec (ws := wsX1_happen) B.pre
  have hown : s.vm.findClass RX1 = some m.cls := findClass_of_methodNamed B.named
  have hlocks := B.notSynchronized
  subst hsz
  have hD := hD0.self (sz := s.heap.size)
  generalize hAe : va_A (wX1 cI hd hy ay oy ++ wX0 cI hd ad od) s.heap.size = A at hD ⊢
  have hA : ∀ q : Nat, s.heap.size ≤ q → A q := fun q h => by rw [← hAe]; exact Or.inr h
  have hS : va_S A s.heap s.heap [] := va_S.rf
  have hP : va_P D vwCl (wX1 cI hd hy ay oy ++ wX0 cI hd ad od) s.heap := hP
  have hl := lv_entry ([.ref hy, .int p0, .int p1]) (n := 3) (Nat.le_of_ble_eq_true rfl)
  rw [lg_entry_eq]
  generalize (lg_sl ([.ref hy, .int p0, .int p1]) ++ List.replicate (3 - (lg_sl ([.ref hy, .int p0, .int p1])).length) Slot.unset).toArray = ls at hl ⊢
  have hl : lv_has ls 3 [(0, .ref hy), (1, .int p0), (2, .int p1)] := hl
  have hSF : CallFix p m c cX1_happen 3 s _ wsX1_happen RX1 := ⟨hx, hb, hml, hown, hts⟩
  have hi1 : ∀ w ∈ wsX10, w ∈ wsX1_happen := by decide +kernel
  have hf12 : (Cond.fieldLink RX1 12 "UmbrellaVote$History" "city" "LUmbrellaVote$City;").before _ s = true := hts _ (by decide +kernel)
  refine lv_iload_n hx hb dX1_happen_0 rfl (lv_at hl 1 rfl) ?_
  refine lv_bipush (v := 33) hx hb dX1_happen_1 (by decide) ?_
  refine lv_icmp_ne (tgt := 24) hx hb dX1_happen_3 (by decide) (fun c1 => ?_) (fun c1 => ?_)
  · skip
    refine lv_iload_n hx hb dX1_happen_24 rfl (lv_at hl 1 rfl) ?_
    refine lv_bipush (v := 45) hx hb dX1_happen_25 (by decide) ?_
    refine lv_icmp_ne (tgt := 46) hx hb dX1_happen_27 (by decide) (fun c2 => ?_) (fun c2 => ?_)
    · skip
      refine lv_iload_n hx hb dX1_happen_46 rfl (lv_at hl 1 rfl) ?_
      refine lv_bipush (v := 126) hx hb dX1_happen_47 (by decide) ?_
      refine lv_icmp_ne (tgt := 63) hx hb dX1_happen_49 (by decide) (fun c3 => ?_) (fun c3 => ?_)
      · skip
        refine lv_iload_n hx hb dX1_happen_63 rfl (lv_at hl 2 rfl) ?_
        refine lv_bipush (v := 46) hx hb dX1_happen_64 (by decide) ?_
        refine lv_icmp_ne (tgt := 77) hx hb dX1_happen_66 (by decide) (fun c4 => ?_) (fun c4 => ?_)
        · skip
          refine lv_aload_n hx hb dX1_happen_77 rfl (lv_at hl 0 rfl) ?_
          refine lv_iload_n hx hb dX1_happen_78 rfl (lv_at hl 2 rfl) ?_
          refine lv_bipush (v := 48) hx hb dX1_happen_79 (by decide) ?_
          refine lv_isub hx hb dX1_happen_81 ?_
          refine wcVv (b := hy) (As := [.int (p1 - 48)]) (rest := []) (wr := []) (ws' := wX1 cI hd hy ay (fX1_rain oy od (p1 - 48)) ++ wX0 cI hd ad od) hSF (kX1_rain l D cI cZ cC hy ay oy hd ad od (p1 - 48)) (cwV 1 hts gX1_happen_X1_rain rfl rfl rfl (by decide +kernel) ⟨Nat.le_of_ble_eq_true rfl, Nat.le_of_ble_eq_true rfl⟩) (va_recv hK hP (ci := 1) (q0 := 0) rfl rfl) hP hD hS hA hK hN [0, 1, 2, 3, 4, 5, 6, 7] [] [0, 1, 2, 3, 4, 5, 6, 7] rfl (by decide) rfl (by decide) (by decide) rfl (by decide) rfl rfl hl.1 (Nat.le_of_ble_eq_true rfl) dX1_happen_82 ⟨Nat.zero_le _, Nat.zero_le _⟩ (fun H locs hP hD hS => ?_)
          have e9 : fX1_happen oy od p0 p1 = (od, (fX1_rain oy od (p1 - 48))) := by
            simp only [fX1_happen, if_neg c1, if_neg c2, if_neg c3, if_neg c4]
          exact W.vret hx hb hr (fun t ht hW => ⟨⟨(od, (fX1_rain oy od (p1 - 48))), rfl, e9.symm, ⟨by rw [ht]; exact hP, hD⟩⟩, hS.F ht⟩) hS.2.2 dX1_happen_85
        · skip
          refine lv_aload_n hx hb dX1_happen_69 rfl (lv_at hl 0 rfl) ?_
          refine lv_iconst (v := 1) hx hb dX1_happen_70 (by decide) ?_
          refine wcVv (b := hy) (As := [.int 1]) (rest := []) (wr := []) (ws' := wX1 cI hd hy ay (fX1_pass oy od 1) ++ wX0 cI hd ad od) hSF (kX1_pass l D cI cZ cC hy ay oy hd ad od 1) (cwV 1 hts gX1_happen_X1_pass rfl rfl rfl (by decide +kernel) ⟨Nat.le_of_ble_eq_true rfl, Nat.le_of_ble_eq_true rfl⟩) (va_recv hK hP (ci := 1) (q0 := 0) rfl rfl) hP hD hS hA hK hN [0, 1, 2, 3, 4, 5, 6, 7] [] [0, 1, 2, 3, 4, 5, 6, 7] rfl (by decide) rfl (by decide) (by decide) rfl (by decide) rfl rfl hl.1 (Nat.le_of_ble_eq_true rfl) dX1_happen_71 ⟨Nat.zero_le _, Nat.zero_le _⟩ (fun H locs hP hD hS => ?_)
          refine lv_goto (tgt := 85) hx hb dX1_happen_74 (by decide) ?_
          have e9 : fX1_happen oy od p0 p1 = (od, (fX1_pass oy od 1)) := by
            simp only [fX1_happen, if_neg c1, if_neg c2, if_neg c3, if_pos c4]
          exact W.vret hx hb hr (fun t ht hW => ⟨⟨(od, (fX1_pass oy od 1)), rfl, e9.symm, ⟨by rw [ht]; exact hP, hD⟩⟩, hS.F ht⟩) hS.2.2 dX1_happen_85
      · skip
        refine lv_aload_n hx hb dX1_happen_52 rfl (lv_at hl 0 rfl) ?_
        refine lv_iload_n hx hb dX1_happen_53 rfl (lv_at hl 2 rfl) ?_
        refine lv_bipush (v := 65) hx hb dX1_happen_54 (by decide) ?_
        refine lv_isub hx hb dX1_happen_56 ?_
        refine wcVv (b := hy) (As := [.int (p1 - 65)]) (rest := []) (wr := []) (ws' := wX1 cI hd hy ay (fX1_breakUmbrella oy od (p1 - 65)).2 ++ wX0 cI hd ad (fX1_breakUmbrella oy od (p1 - 65)).1) hSF (kX1_breakUmbrella l D cI cZ cC hy ay oy hd ad od (p1 - 65)) (cwV 1 hts gX1_happen_X1_breakUmbrella rfl rfl rfl (by decide +kernel) ⟨Nat.le_of_ble_eq_true rfl, Nat.le_of_ble_eq_true rfl⟩) (va_recv hK hP (ci := 1) (q0 := 0) rfl rfl) hP hD hS hA hK hN [0, 1, 2, 3, 4, 5, 6, 7] [] [0, 1, 2, 3, 4, 5, 6, 7] rfl (by decide) rfl (by decide) (by decide) rfl (by decide) rfl rfl hl.1 (Nat.le_of_ble_eq_true rfl) dX1_happen_57 ⟨Nat.zero_le _, Nat.zero_le _⟩ (fun H locs hP hD hS => ?_)
        refine lv_goto (tgt := 85) hx hb dX1_happen_60 (by decide) ?_
        have e9 : fX1_happen oy od p0 p1 = ((fX1_breakUmbrella oy od (p1 - 65)).1, (fX1_breakUmbrella oy od (p1 - 65)).2) := by
          simp only [fX1_happen, if_neg c1, if_neg c2, if_pos c3]
        exact W.vret hx hb hr (fun t ht hW => ⟨⟨((fX1_breakUmbrella oy od (p1 - 65)).1, (fX1_breakUmbrella oy od (p1 - 65)).2), rfl, e9.symm, ⟨by rw [ht]; exact hP, hD⟩⟩, hS.F ht⟩) hS.2.2 dX1_happen_85
    · skip
      refine lv_aload_n hx hb dX1_happen_30 rfl (lv_at hl 0 rfl) ?_
      refine lv_iconst (v := 0) hx hb dX1_happen_31 (by decide) ?_
      refine wcVv (b := hy) (As := [.int 0]) (rest := []) (wr := [(hd, .inr (0, [.int (od.1 0), .int (od.1 1), .int (od.1 2), .int (od.1 3), .int (od.1 4), .int (od.1 5), .int (od.1 6), .ref (ad 7), .ref (ad 8), .ref (ad 9), .ref (ad 10), .ref (ad 11)])), (ad 7, .inl (cI, 6, .inl (od.2 7))), (ad 8, .inl (cI, 6, .inl (od.2 8))), (ad 9, .inl (cI, 10, .inl (od.2 9))), (ad 10, .inl (cI, 6, .inl (od.2 10))), (ad 11, .inl (cI, 6, .inl (od.2 11)))]) (ws' := wX1 cI hd hy ay (fX1_become oy 0) ++ wX0 cI hd ad od) hSF (kX1_become l D cI cZ cC hy ay oy hd 0) (cwV 1 hts gX1_happen_X1_become rfl rfl rfl (by decide +kernel) ⟨Nat.le_of_ble_eq_true rfl, Nat.le_of_ble_eq_true rfl⟩) (va_recv hK hP (ci := 1) (q0 := 0) rfl rfl) hP hD hS hA hK hN [0, 1] [2, 3, 4, 5, 6, 7] [6, 7, 0, 1, 2, 3, 4, 5] rfl (by decide) rfl (by decide) (by decide) rfl (by decide) rfl rfl hl.1 (Nat.le_of_ble_eq_true rfl) dX1_happen_32 ⟨Nat.zero_le _, Nat.zero_le _⟩ (fun H locs hP hD hS => ?_)
      refine lv_aload_n hx hb dX1_happen_35 rfl (lv_at hl 0 rfl) ?_
      refine lv_iload_n hx hb dX1_happen_36 rfl (lv_at hl 2 rfl) ?_
      refine lv_bipush (v := 48) hx hb dX1_happen_37 (by decide) ?_
      refine lv_isub hx hb dX1_happen_39 ?_
      refine wcVv (b := hy) (As := [.int (p1 - 48)]) (rest := []) (wr := []) (ws' := wX1 cI hd hy ay (fX1_pass (fX1_become oy 0) od (p1 - 48)) ++ wX0 cI hd ad od) hSF (kX1_pass l D cI cZ cC hy ay (fX1_become oy 0) hd ad od (p1 - 48)) (cwV 1 hts gX1_happen_X1_pass rfl rfl rfl (by decide +kernel) ⟨Nat.le_of_ble_eq_true rfl, Nat.le_of_ble_eq_true rfl⟩) (va_recv hK hP (ci := 1) (q0 := 0) rfl rfl) hP hD hS hA hK hN [0, 1, 2, 3, 4, 5, 6, 7] [] [0, 1, 2, 3, 4, 5, 6, 7] rfl (by decide) rfl (by decide) (by decide) rfl (by decide) rfl rfl hl.1 (Nat.le_of_ble_eq_true rfl) dX1_happen_40 ⟨Nat.zero_le _, Nat.zero_le _⟩ (fun H locs hP hD hS => ?_)
      refine lv_goto (tgt := 85) hx hb dX1_happen_43 (by decide) ?_
      have e9 : fX1_happen oy od p0 p1 = (od, (fX1_pass (fX1_become oy 0) od (p1 - 48))) := by
        simp only [fX1_happen, if_neg c1, if_pos c2]
      exact W.vret hx hb hr (fun t ht hW => ⟨⟨(od, (fX1_pass (fX1_become oy 0) od (p1 - 48))), rfl, e9.symm, ⟨by rw [ht]; exact hP, hD⟩⟩, hS.F ht⟩) hS.2.2 dX1_happen_85
  · skip
    refine lv_aload_n hx hb dX1_happen_6 rfl (lv_at hl 0 rfl) ?_
    refine lv_aload_n hx hb dX1_happen_7 rfl (lv_at hl 0 rfl) ?_
    refine va_get (D := D) (ci := 1) (v := .ref hd) (C := RX1) (T := TX1) (N := 4) hx hb hts hi1 hown hK hP 0 rfl rfl 0 (by decide) hf12 (fun _ h9 => h9) rfl dX1_happen_8 ?_
    refine lv_iload_n hx hb dX1_happen_11 rfl (lv_at hl 2 rfl) ?_
    refine lv_bipush (v := 48) hx hb dX1_happen_12 (by decide) ?_
    refine lv_isub hx hb dX1_happen_14 ?_
    refine rcVi (b := hd) (As := [.int (p1 - 48)]) (rest := [.ref hy]) hSF (kX0_sprinkled l D cI cZ cC hd ad od (p1 - 48)) (cwV 1 hts gX1_happen_X0_sprinkled rfl rfl rfl (by decide +kernel) ⟨Nat.le_of_ble_eq_true rfl, Nat.le_of_ble_eq_true rfl⟩) (va_recv hK hP (ci := 0) (q0 := 2) rfl rfl) (hP.sub [2, 3, 4, 5, 6, 7] rfl) hK hN rfl rfl hl.1 (Nat.le_of_ble_eq_true rfl) dX1_happen_15 ⟨Nat.zero_le _, Nat.zero_le _⟩ ?_
    refine wcVv (b := hy) (As := [.int (fX0_sprinkled od (p1 - 48))]) (rest := []) (wr := [(hd, .inr (0, [.int (od.1 0), .int (od.1 1), .int (od.1 2), .int (od.1 3), .int (od.1 4), .int (od.1 5), .int (od.1 6), .ref (ad 7), .ref (ad 8), .ref (ad 9), .ref (ad 10), .ref (ad 11)])), (ad 7, .inl (cI, 6, .inl (od.2 7))), (ad 8, .inl (cI, 6, .inl (od.2 8))), (ad 9, .inl (cI, 10, .inl (od.2 9))), (ad 10, .inl (cI, 6, .inl (od.2 10))), (ad 11, .inl (cI, 6, .inl (od.2 11)))]) (ws' := wX1 cI hd hy ay (fX1_opened oy (fX0_sprinkled od (p1 - 48))) ++ wX0 cI hd ad od) hSF (kX1_opened l D cI cZ cC hy ay oy hd (fX0_sprinkled od (p1 - 48))) (cwV 1 hts gX1_happen_X1_opened rfl rfl rfl (by decide +kernel) ⟨Nat.le_of_ble_eq_true rfl, Nat.le_of_ble_eq_true rfl⟩) (va_recv hK hP (ci := 1) (q0 := 0) rfl rfl) hP hD hS hA hK hN [0, 1] [2, 3, 4, 5, 6, 7] [6, 7, 0, 1, 2, 3, 4, 5] rfl (by decide) rfl (by decide) (by decide) rfl (by decide) rfl rfl hl.1 (Nat.le_of_ble_eq_true rfl) dX1_happen_18 ⟨Nat.zero_le _, Nat.zero_le _⟩ (fun H locs hP hD hS => ?_)
    refine lv_goto (tgt := 85) hx hb dX1_happen_21 (by decide) ?_
    have e9 : fX1_happen oy od p0 p1 = (od, (fX1_opened oy (fX0_sprinkled od (p1 - 48)))) := by
      simp only [fX1_happen, if_pos c1]
    exact W.vret hx hb hr (fun t ht hW => ⟨⟨(od, (fX1_opened oy (fX0_sprinkled od (p1 - 48)))), rfl, e9.symm, ⟨by rw [ht]; exact hP, hD⟩⟩, hS.F ht⟩) hS.2.2 dX1_happen_85

set_option maxHeartbeats 4000000 in
set_option maxRecDepth 100000 in
theorem kX1_play (l : Launch) (D : va_G) (cI cZ cC : ClassId) (hy : Nat) (ay : Nat → Nat) (oy : OV) (hd : Nat) (ad : Nat → Nat) (od : OV) (hc : Nat) (ac : Nat → Nat) (oc : OV) (hg : Nat) (ag : Nat → Nat) (og : OV) (p0 : Int32) (hn : (og.1 1).toNatClampNeg ≤ 40 ∧ og.1 1 = nI (og.1 1).toNatClampNeg) {sz : Nat} : Met l yX1_play wsX1_play ({ frames := 5, cells := 0, slots := 0, locals := 116 }) (pW D (tyv cI cZ cC) (wX1 cI hd hy ay oy ++ wX0 cI hd ad od ++ wX0 cI hc ac oc ++ wX2 cI hg ag og) sz [.ref hy, .ref hc, .ref hg, .int p0]) (va_Qv (fun (u : OV × OV) => u = fX1_play oy od oc og p0) (qW D (fun (u : OV × OV) => wX1 cI hd hy ay u.2 ++ wX0 cI hd ad u.1 ++ wX0 cI hc ac oc ++ wX2 cI hg ag og) (va_A (wX1 cI hd hy ay oy ++ wX0 cI hd ad od ++ wX0 cI hc ac oc ++ wX2 cI hg ag og) sz)) (va_A (wX1 cI hd hy ay oy ++ wX0 cI hd ad od ++ wX0 cI hc ac oc ++ wX2 cI hg ag og) sz)) 0 0 (va_A (wX1 cI hd hy ay oy ++ wX0 cI hd ad od ++ wX0 cI hc ac oc ++ wX2 cI hg ag og) sz) := by
  refine Met.ofW (cc := cX1_play) (maxL := 8) (ret := none) (by decide) rfl ?_
  intro p e s m args below meth c s₁ B hml hv
  obtain ⟨rfl, hsz, hP, hK, hN, hD0⟩ := hv
  have hx := B.exec
  have hb := B.bytes
  have hr := B.returns
  have hts := atoms_spec (ws := wsX1_play) B.pre
  have hown : s.vm.findClass RX1 = some m.cls := findClass_of_methodNamed B.named
  have hlocks := B.notSynchronized
  subst hsz
  have hD := hD0.self (sz := s.heap.size)
  generalize hAe : va_A (wX1 cI hd hy ay oy ++ wX0 cI hd ad od ++ wX0 cI hc ac oc ++ wX2 cI hg ag og) s.heap.size = A at hD ⊢
  have hA : ∀ q : Nat, s.heap.size ≤ q → A q := fun q h => by rw [← hAe]; exact Or.inr h
  have hS : va_S A s.heap s.heap [] := va_S.rf
  have hP : va_P D vwCl (wX1 cI hd hy ay oy ++ wX0 cI hd ad od ++ wX0 cI hc ac oc ++ wX2 cI hg ag og) s.heap := hP
  have hl := lv_entry ([.ref hy, .ref hc, .ref hg, .int p0]) (n := 8) (Nat.le_of_ble_eq_true rfl)
  rw [lg_entry_eq]
  generalize (lg_sl ([.ref hy, .ref hc, .ref hg, .int p0]) ++ List.replicate (8 - (lg_sl ([.ref hy, .ref hc, .ref hg, .int p0])).length) Slot.unset).toArray = ls at hl ⊢
  have hl : lv_has ls 8 [(0, .ref hy), (1, .ref hc), (2, .ref hg), (3, .int p0)] := hl
  have hSF : CallFix p m c cX1_play 8 s _ wsX1_play RX1 := ⟨hx, hb, hml, hown, hts⟩
  have hi2 : ∀ w ∈ wsX20, w ∈ wsX1_play := by decide +kernel
  have hf42 : (Cond.fieldLink RX1 42 "UmbrellaVote$Pad" "count" "I").before _ s = true := hts _ (by decide +kernel)
  refine lv_aload_n hx hb dX1_play_0 rfl (lv_at hl 0 rfl) ?_
  refine lv_aload_n hx hb dX1_play_1 rfl (lv_at hl 1 rfl) ?_
  refine wcVv (b := hy) (As := [.ref hc]) (rest := []) (wr := [(hg, .inr (2, [.ref (ag 0), .int (og.1 1)])), (ag 0, .inl (cI, 40, .inl (og.2 0)))]) (ws' := wX1 cI hd hy ay (fX1_begin oy od oc).2 ++ wX0 cI hd ad (fX1_begin oy od oc).1 ++ wX0 cI hc ac oc ++ wX2 cI hg ag og) hSF (kX1_begin l D cI cZ cC hy ay oy hd ad od hc ac oc) (cwV 1 hts gX1_play_X1_begin rfl rfl rfl (by decide +kernel) ⟨Nat.le_of_ble_eq_true rfl, Nat.le_of_ble_eq_true rfl⟩) (va_recv hK hP (ci := 1) (q0 := 0) rfl rfl) hP hD hS hA hK hN [0, 1, 2, 3, 4, 5, 6, 7, 8, 9, 10, 11, 12, 13] [14, 15] [2, 3, 4, 5, 6, 7, 8, 9, 10, 11, 12, 13, 14, 15, 0, 1] rfl (by decide) rfl (by decide) (by decide) rfl (by decide) rfl rfl hl.1 (Nat.le_of_ble_eq_true rfl) dX1_play_2 ⟨Nat.zero_le _, Nat.zero_le _⟩ (fun H locs hP hD hS => ?_)
  refine lv_iconst (v := 0) hx hb dX1_play_5 (by decide) ?_
  refine lv_istore (lv' := [(4, .int 0), (0, .ref hy), (1, .ref hc), (2, .ref hg), (3, .int p0)]) hx hb dX1_play_6 hl (by decide) rfl (fun ls hl => ?_)
  refine lv_iconst (v := 0) hx hb dX1_play_8 (by decide) ?_
  refine lv_istore (lv' := [(5, .int 0), (4, .int 0), (0, .ref hy), (1, .ref hc), (2, .ref hg), (3, .int p0)]) hx hb dX1_play_9 hl (by decide) rfl (fun ls hl => ?_)
  refine lv_iconst (v := 0) hx hb dX1_play_11 (by decide) ?_
  refine lv_istore (lv' := [(6, .int 0), (5, .int 0), (4, .int 0), (0, .ref hy), (1, .ref hc), (2, .ref hg), (3, .int p0)]) hx hb dX1_play_12 hl (by decide) rfl (fun ls hl => ?_)
  refine W_ltW (σ := Int32 × Int32 × OV × OV) ((og.1 1).toNatClampNeg) (fun r9 k9 x9 H9 locs9 ls9 => va_P D vwCl (wX1 cI hd hy ay x9.2.2.2 ++ wX0 cI hd ad x9.2.2.1 ++ wX0 cI hc ac oc ++ wX2 cI hg ag og) H9 ∧ va_D A (wX1 cI hd hy ay x9.2.2.2 ++ wX0 cI hd ad x9.2.2.1 ++ wX0 cI hc ac oc ++ wX2 cI hg ag og) ∧ va_S A s.heap H9 locs9 ∧ lv_has ls9 8 [(6, .int (nI k9)), (5, .int x9.1), (4, .int x9.2.1), (0, .ref hy), (1, .ref hc), (2, .ref hg), (3, .int p0)] ∧ fX1_play_L14 og p0 r9 k9 x9.1 x9.2.1 x9.2.2.1 x9.2.2.2 = fX1_play_L14 og p0 ((og.1 1).toNatClampNeg) 0 0 0 ((fX1_begin oy od oc).1) ((fX1_begin oy od oc).2)) (0, 0, (fX1_begin oy od oc).1, (fX1_begin oy od oc).2) ⟨hP, hD, hS, lv_sub hl [0, 1, 2, 3, 4, 5, 6] rfl, rfl⟩ ?_ ?_
  · intro r1 k1 y1 H locs ls hr1 hI9 ih1
    obtain ⟨x5_1, x4_1, od1, oy1⟩ := y1
    obtain ⟨hP, hD, hS, hl, hG1⟩ := hI9
    have hP : va_P D vwCl (wX1 cI hd hy ay oy1 ++ wX0 cI hd ad od1 ++ wX0 cI hc ac oc ++ wX2 cI hg ag og) H := hP
    have hD : va_D A (wX1 cI hd hy ay oy1 ++ wX0 cI hd ad od1 ++ wX0 cI hc ac oc ++ wX2 cI hg ag og) := hD
    have hG1 : fX1_play_L14 og p0 (r1 + 1) k1 x5_1 x4_1 od1 oy1 = fX1_play_L14 og p0 ((og.1 1).toNatClampNeg) 0 0 0 ((fX1_begin oy od oc).1) ((fX1_begin oy od oc).2) := hG1
    have hl : lv_has ls 8 [(6, .int (nI k1)), (5, .int x5_1), (4, .int x4_1), (0, .ref hy), (1, .ref hc), (2, .ref hg), (3, .int p0)] := hl
    have hk1 : k1 < (og.1 1).toNatClampNeg := by omega
    refine lv_iload hx hb dX1_play_14 (lv_at hl 0 rfl) ?_
    refine lv_aload_n hx hb dX1_play_16 rfl (lv_at hl 5 rfl) ?_
    refine va_get (D := D) (ci := 2) (v := .int (og.1 1)) (C := RX2) (T := TX2) (N := 2) hx hb hts hi2 hown hK hP 14 rfl rfl 1 (by decide) hf42 (fun _ h9 => h9) rfl dX1_play_17 ?_
    refine lv_icmp_ge (tgt := 72) hx hb dX1_play_20 (by decide) (fun c2 => absurd c2 (bnd_nle hn.2 hk1 (Nat.lt_of_le_of_lt hn.1 (by decide)))) (fun c2 => ?_)
    refine lv_iload hx hb dX1_play_23 (lv_at hl 1 rfl) ?_
    refine lv_iload_n hx hb dX1_play_25 rfl (lv_at hl 6 rfl) ?_
    refine lv_icmp_ge (tgt := 72) hx hb dX1_play_26 (by decide) (fun c3 => ?_) (fun c3 => ?_)
    · skip
      have e9 : fX1_play oy od oc og p0 = (od1, oy1) := by
        refine Eq.trans (b := fX1_play_L14 og p0 ((og.1 1).toNatClampNeg) 0 0 0 ((fX1_begin oy od oc).1) ((fX1_begin oy od oc).2)) ?_ ?_
        · rfl
        · rw [← hG1]; simp only [fX1_play_L14, if_pos c3]
      exact W.vret hx hb hr (fun t ht hW => ⟨⟨(od1, oy1), rfl, e9.symm, ⟨by rw [ht]; exact hP, hD⟩⟩, hS.F ht⟩) hS.2.2 dX1_play_72
    · skip
      refine lv_aload_n hx hb dX1_play_29 rfl (lv_at hl 5 rfl) ?_
      refine lv_iload hx hb dX1_play_30 (lv_at hl 0 rfl) ?_
      refine rcVi (b := hg) (As := [.int (nI k1)]) (rest := []) hSF (kX2_sign l D cI cZ cC hg ag og (nI k1)) (cwV 1 hts gX1_play_X2_sign rfl rfl rfl (by decide +kernel) ⟨Nat.le_of_ble_eq_true rfl, Nat.le_of_ble_eq_true rfl⟩) (va_recv hK hP (ci := 2) (q0 := 14) rfl rfl) (hP.sub [14, 15] rfl) hK hN rfl rfl hl.1 (Nat.le_of_ble_eq_true rfl) dX1_play_32 ⟨Nat.zero_le _, Nat.zero_le _⟩ ?_
      refine lv_istore (lv' := [(7, .int (fX2_sign og (nI k1))), (6, .int (nI k1)), (5, .int x5_1), (4, .int x4_1), (0, .ref hy), (1, .ref hc), (2, .ref hg), (3, .int p0)]) hx hb dX1_play_35 hl (by decide) rfl (fun ls hl => ?_)
      refine lv_iload hx hb dX1_play_37 (lv_at hl 0 rfl) ?_
      refine rcSi (As := [.int (fX2_sign og (nI k1))]) (rest := []) hSF (kX2_takesAnother l D cI cZ cC (fX2_sign og (nI k1))) (va_cwS 1 hts gX1_play_X2_takesAnother rfl rfl rfl (by decide +kernel) ⟨Nat.le_of_ble_eq_true rfl, Nat.le_of_ble_eq_true rfl⟩) (hP.sub [] rfl) hK hN rfl rfl hl.1 (Nat.le_of_ble_eq_true rfl) dX1_play_39 ⟨Nat.zero_le _, Nat.zero_le _⟩ ?_
      refine lv_if_eq (tgt := 52) hx hb dX1_play_42 (by decide) (fun c4 => ?_) (fun c4 => ?_)
      · skip
        refine lv_aload_n hx hb dX1_play_52 rfl (lv_at hl 4 rfl) ?_
        refine lv_iload hx hb dX1_play_53 (lv_at hl 3 rfl) ?_
        refine lv_iload hx hb dX1_play_55 (lv_at hl 0 rfl) ?_
        refine wcVv (b := hy) (As := [.int x4_1, .int (fX2_sign og (nI k1))]) (rest := []) (wr := [(hc, .inr (0, [.int (oc.1 0), .int (oc.1 1), .int (oc.1 2), .int (oc.1 3), .int (oc.1 4), .int (oc.1 5), .int (oc.1 6), .ref (ac 7), .ref (ac 8), .ref (ac 9), .ref (ac 10), .ref (ac 11)])), (ac 7, .inl (cI, 6, .inl (oc.2 7))), (ac 8, .inl (cI, 6, .inl (oc.2 8))), (ac 9, .inl (cI, 10, .inl (oc.2 9))), (ac 10, .inl (cI, 6, .inl (oc.2 10))), (ac 11, .inl (cI, 6, .inl (oc.2 11))), (hg, .inr (2, [.ref (ag 0), .int (og.1 1)])), (ag 0, .inl (cI, 40, .inl (og.2 0)))]) (ws' := wX1 cI hd hy ay (fX1_happen oy1 od1 x4_1 (fX2_sign og (nI k1))).2 ++ wX0 cI hd ad (fX1_happen oy1 od1 x4_1 (fX2_sign og (nI k1))).1 ++ wX0 cI hc ac oc ++ wX2 cI hg ag og) hSF (kX1_happen l D cI cZ cC hy ay oy1 hd ad od1 x4_1 (fX2_sign og (nI k1))) (cwV 2 hts gX1_play_X1_happen rfl rfl rfl (by decide +kernel) ⟨Nat.le_of_ble_eq_true rfl, Nat.le_of_ble_eq_true rfl⟩) (va_recv hK hP (ci := 1) (q0 := 0) rfl rfl) hP hD hS hA hK hN [0, 1, 2, 3, 4, 5, 6, 7] [8, 9, 10, 11, 12, 13, 14, 15] [8, 9, 10, 11, 12, 13, 14, 15, 0, 1, 2, 3, 4, 5, 6, 7] rfl (by decide) rfl (by decide) (by decide) rfl (by decide) rfl rfl hl.1 (Nat.le_of_ble_eq_true rfl) dX1_play_57 ⟨Nat.zero_le _, Nat.zero_le _⟩ (fun H locs hP hD hS => ?_)
        refine lv_iconst (v := 0) hx hb dX1_play_60 (by decide) ?_
        refine lv_istore (lv' := [(4, .int 0), (7, .int (fX2_sign og (nI k1))), (6, .int (nI k1)), (5, .int x5_1), (0, .ref hy), (1, .ref hc), (2, .ref hg), (3, .int p0)]) hx hb dX1_play_61 hl (by decide) rfl (fun ls hl => ?_)
        refine lv_iinc (v := (x5_1 + 1)) (lv' := [(5, .int (x5_1 + 1)), (4, .int 0), (7, .int (fX2_sign og (nI k1))), (6, .int (nI k1)), (0, .ref hy), (1, .ref hc), (2, .ref hg), (3, .int p0)]) hx hb dX1_play_63 hl (k := 3) rfl rfl (by decide) rfl (fun ls hl => ?_)
        refine lv_iinc (v := ((nI k1) + 1)) (lv' := [(6, .int ((nI k1) + 1)), (5, .int (x5_1 + 1)), (4, .int 0), (7, .int (fX2_sign og (nI k1))), (0, .ref hy), (1, .ref hc), (2, .ref hg), (3, .int p0)]) hx hb dX1_play_66 hl (k := 3) rfl rfl (by decide) rfl (fun ls hl => ?_)
        refine lv_goto (tgt := 14) hx hb dX1_play_69 (by decide) ?_
        have hl9 : lv_has ls 8 [(6, .int (nI (k1 + 1))), (5, .int (x5_1 + 1)), (4, .int 0), (0, .ref hy), (1, .ref hc), (2, .ref hg), (3, .int p0)] := by
          rw [nI_succ]; exact lv_sub hl [0, 1, 2, 4, 5, 6, 7] rfl
        have e8 : fX1_play_L14 og p0 r1 (k1 + 1) (x5_1 + 1) 0 ((fX1_happen oy1 od1 x4_1 (fX2_sign og (nI k1))).1) ((fX1_happen oy1 od1 x4_1 (fX2_sign og (nI k1))).2) = fX1_play_L14 og p0 ((og.1 1).toNatClampNeg) 0 0 0 ((fX1_begin oy od oc).1) ((fX1_begin oy od oc).2) := by
          rw [← hG1]
          simp only [fX1_play_L14, if_neg c3, if_pos c4]
        exact ih1 ((x5_1 + 1), 0, (fX1_happen oy1 od1 x4_1 (fX2_sign og (nI k1))).1, (fX1_happen oy1 od1 x4_1 (fX2_sign og (nI k1))).2) H locs ls ⟨hP, hD, hS, hl9, e8⟩
      · skip
        refine lv_iload hx hb dX1_play_45 (lv_at hl 0 rfl) ?_
        refine lv_istore (lv' := [(4, .int (fX2_sign og (nI k1))), (7, .int (fX2_sign og (nI k1))), (6, .int (nI k1)), (5, .int x5_1), (0, .ref hy), (1, .ref hc), (2, .ref hg), (3, .int p0)]) hx hb dX1_play_47 hl (by decide) rfl (fun ls hl => ?_)
        refine lv_goto (tgt := 66) hx hb dX1_play_49 (by decide) ?_
        refine lv_iinc (v := ((nI k1) + 1)) (lv' := [(6, .int ((nI k1) + 1)), (4, .int (fX2_sign og (nI k1))), (7, .int (fX2_sign og (nI k1))), (5, .int x5_1), (0, .ref hy), (1, .ref hc), (2, .ref hg), (3, .int p0)]) hx hb dX1_play_66 hl (k := 2) rfl rfl (by decide) rfl (fun ls hl => ?_)
        refine lv_goto (tgt := 14) hx hb dX1_play_69 (by decide) ?_
        have hl9 : lv_has ls 8 [(6, .int (nI (k1 + 1))), (5, .int x5_1), (4, .int (fX2_sign og (nI k1))), (0, .ref hy), (1, .ref hc), (2, .ref hg), (3, .int p0)] := by
          rw [nI_succ]; exact lv_sub hl [0, 3, 1, 4, 5, 6, 7] rfl
        have e8 : fX1_play_L14 og p0 r1 (k1 + 1) x5_1 (fX2_sign og (nI k1)) od1 oy1 = fX1_play_L14 og p0 ((og.1 1).toNatClampNeg) 0 0 0 ((fX1_begin oy od oc).1) ((fX1_begin oy od oc).2) := by
          rw [← hG1]
          simp only [fX1_play_L14, if_neg c3, if_neg c4]
        exact ih1 (x5_1, (fX2_sign og (nI k1)), od1, oy1) H locs ls ⟨hP, hD, hS, hl9, e8⟩
  intro k1 y1 H locs ls hB1 hI9
  obtain ⟨x5_1, x4_1, od1, oy1⟩ := y1
  obtain ⟨hP, hD, hS, hl, hG1⟩ := hI9
  have hP : va_P D vwCl (wX1 cI hd hy ay oy1 ++ wX0 cI hd ad od1 ++ wX0 cI hc ac oc ++ wX2 cI hg ag og) H := hP
  have hD : va_D A (wX1 cI hd hy ay oy1 ++ wX0 cI hd ad od1 ++ wX0 cI hc ac oc ++ wX2 cI hg ag og) := hD
  have hG1 : fX1_play_L14 og p0 0 k1 x5_1 x4_1 od1 oy1 = fX1_play_L14 og p0 ((og.1 1).toNatClampNeg) 0 0 0 ((fX1_begin oy od oc).1) ((fX1_begin oy od oc).2) := hG1
  have hl : lv_has ls 8 [(6, .int (nI k1)), (5, .int x5_1), (4, .int x4_1), (0, .ref hy), (1, .ref hc), (2, .ref hg), (3, .int p0)] := hl
  refine lv_iload hx hb dX1_play_14 (lv_at hl 0 rfl) ?_
  refine lv_aload_n hx hb dX1_play_16 rfl (lv_at hl 5 rfl) ?_
  refine va_get (D := D) (ci := 2) (v := .int (og.1 1)) (C := RX2) (T := TX2) (N := 2) hx hb hts hi2 hown hK hP 14 rfl rfl 1 (by decide) hf42 (fun _ h9 => h9) rfl dX1_play_17 ?_
  refine lv_icmp_ge (tgt := 72) hx hb dX1_play_20 (by decide) (fun c5 => ?_) (fun c5 => absurd (by rw [hB1]; exact bnd_le hn.2) c5)
  have e9 : fX1_play oy od oc og p0 = (od1, oy1) := by
    refine Eq.trans (b := fX1_play_L14 og p0 ((og.1 1).toNatClampNeg) 0 0 0 ((fX1_begin oy od oc).1) ((fX1_begin oy od oc).2)) ?_ ?_
    · rfl
    · rw [← hG1]; rfl
  exact W.vret hx hb hr (fun t ht hW => ⟨⟨(od1, oy1), rfl, e9.symm, ⟨by rw [ht]; exact hP, hD⟩⟩, hS.F ht⟩) hS.2.2 dX1_play_72

