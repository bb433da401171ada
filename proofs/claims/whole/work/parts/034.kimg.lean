set_option maxHeartbeats 4000000 in
set_option maxRecDepth 100000 in
theorem kX5_carry (l : Launch) (D : va_G) (cI cZ cC : ClassId) (hm : Nat) (am : Nat → Nat) (om : OV) (p0 : Int32) (hk9 : vp_in (om.1 22) 160) {sz : Nat} : Met l yX5_carry wsX5_carry ({ frames := 0, cells := 0, slots := 0, locals := 0 }) (pW D (tyv cI cZ cC) (wX5 cI cZ hm am om) sz [.ref hm, .int p0]) (va_Qi (fun r (u : OV) => r = (fX5_carry om p0).1 ∧ u = (fX5_carry om p0).2) (qW D (fun (u : OV) => wX5 cI cZ hm am u) (va_A (wX5 cI cZ hm am om) sz)) (va_A (wX5 cI cZ hm am om) sz)) 0 0 (va_A (wX5 cI cZ hm am om) sz) := by
  refine Met.ofW (cc := cX5_carry) (maxL := 3) (ret := (some .int)) (by decide) rfl ?_
  intro p e s m args below meth c s₁ B hml hv
  obtain ⟨rfl, hsz, hP, hK, hN, hD0⟩ := hv
  have hx := B.exec
  have hb := B.bytes
  have hr := B.returns
  have hts := atoms_spec (ws := wsX5_carry) B.pre
  have hown : s.vm.findClass RX5 = some m.cls := findClass_of_methodNamed B.named
  have hlocks := B.notSynchronized
  subst hsz
  have hD := hD0.self (sz := s.heap.size)
  generalize hAe : va_A (wX5 cI cZ hm am om) s.heap.size = A at hD ⊢
  have hA : ∀ q : Nat, s.heap.size ≤ q → A q := fun q h => by rw [← hAe]; exact Or.inr h
  have hS : va_S A s.heap s.heap [] := va_S.rf
  have hP : va_P D vwCl (wX5 cI cZ hm am om) s.heap := hP
  have hl := lv_entry ([.ref hm, .int p0]) (n := 3) (Nat.le_of_ble_eq_true rfl)
  rw [lg_entry_eq]
  generalize (lg_sl ([.ref hm, .int p0]) ++ List.replicate (3 - (lg_sl ([.ref hm, .int p0])).length) Slot.unset).toArray = ls at hl ⊢
  have hl : lv_has ls 3 [(0, .ref hm), (1, .int p0)] := hl
  have hSF : CallFix p m c cX5_carry 3 s _ wsX5_carry RX5 := ⟨hx, hb, hml, hown, hts⟩
  have hi5 : ∀ w ∈ wsX50, w ∈ wsX5_carry := by decide +kernel
  have hf205 : (Cond.fieldLink RX5 205 "UmbrellaVoteModel" "isWriting" "Z").before _ s = true := hts _ (by decide +kernel)
  have hf37 : (Cond.fieldLink RX5 37 "UmbrellaVoteModel" "kept" "[I").before _ s = true := hts _ (by decide +kernel)
  have hf209 : (Cond.fieldLink RX5 209 "UmbrellaVoteModel" "keptAt" "I").before _ s = true := hts _ (by decide +kernel)
  refine lv_aload_n hx hb dX5_carry_0 rfl (lv_at hl 0 rfl) ?_
  refine va_get (D := D) (ci := 5) (v := .int (om.1 23)) (C := RX5) (T := TX5) (N := 24) hx hb hts hi5 hown hK hP 0 rfl rfl 23 (by decide) hf205 (fun _ h9 => h9) rfl dX5_carry_1 ?_
  refine W_itei (P := (om.1 23) = 0) (a := ((om.2 20) (om.1 22).toNatClampNeg)) (b := p0) (J := 20) (ls9 := ls) (rest9 := []) (fun ja2 jb2 => ?_) ?_
  · refine lv_if_eq (tgt := 11) hx hb dX5_carry_4 (by decide) (fun c1 => ?_) (fun c1 => ?_)
    · skip
      refine lv_aload_n hx hb dX5_carry_11 rfl (lv_at hl 0 rfl) ?_
      refine va_get (D := D) (ci := 5) (v := .ref (am 20)) (C := RX5) (T := TX5) (N := 24) hx hb hts hi5 hown hK hP 0 rfl rfl 20 (by decide) hf37 (fun _ h9 => h9) rfl dX5_carry_12 ?_
      refine lv_aload_n hx hb dX5_carry_15 rfl (lv_at hl 0 rfl) ?_
      refine va_get (D := D) (ci := 5) (v := .int (om.1 22)) (C := RX5) (T := TX5) (N := 24) hx hb hts hi5 hown hK hP 0 rfl rfl 22 (by decide) hf209 (fun _ h9 => h9) rfl dX5_carry_16 ?_
      refine va_iald (f := (om.2 20)) hx hb hK hP 10 0 rfl rfl hk9 dX5_carry_19 ?_
      exact ja2 c1
    · skip
      refine lv_iload_n hx hb dX5_carry_7 rfl (lv_at hl 1 rfl) ?_
      refine lv_goto (tgt := 20) hx hb dX5_carry_8 (by decide) ?_
      exact jb2 c1
  refine lv_istore_n (lv' := [(2, .int (if (om.1 23) = 0 then ((om.2 20) (om.1 22).toNatClampNeg) else p0)), (0, .ref hm), (1, .int p0)]) hx hb dX5_carry_20 rfl hl (by decide) rfl (fun ls hl => ?_)
  refine lv_aload_n hx hb dX5_carry_21 rfl (lv_at hl 1 rfl) ?_
  refine va_get (D := D) (ci := 5) (v := .ref (am 20)) (C := RX5) (T := TX5) (N := 24) hx hb hts hi5 hown hK hP 0 rfl rfl 20 (by decide) hf37 (fun _ h9 => h9) rfl dX5_carry_22 ?_
  refine lv_aload_n hx hb dX5_carry_25 rfl (lv_at hl 1 rfl) ?_
  refine va_get (D := D) (ci := 5) (v := .int (om.1 22)) (C := RX5) (T := TX5) (N := 24) hx hb hts hi5 hown hK hP 0 rfl rfl 22 (by decide) hf209 (fun _ h9 => h9) rfl dX5_carry_26 ?_
  refine lv_iload_n hx hb dX5_carry_29 rfl (lv_at hl 0 rfl) ?_
  refine va_iast hx hb hK hP hD hS 10 0 rfl rfl hk9 dX5_carry_30 (fun H locs hP hD hS => ?_)
  have hP : va_P D vwCl (wX5 cI cZ hm am (ua om 20 (om.1 22).toNatClampNeg (if (om.1 23) = 0 then ((om.2 20) (om.1 22).toNatClampNeg) else p0))) H := hP
  have hD : va_D A (wX5 cI cZ hm am (ua om 20 (om.1 22).toNatClampNeg (if (om.1 23) = 0 then ((om.2 20) (om.1 22).toNatClampNeg) else p0))) := hD
  refine lv_aload_n hx hb dX5_carry_31 rfl (lv_at hl 1 rfl) ?_
  refine lv_dup hx hb dX5_carry_32 rfl ?_
  refine va_get (D := D) (ci := 5) (v := .int (om.1 22)) (C := RX5) (T := TX5) (N := 24) hx hb hts hi5 hown hK hP 0 rfl rfl 22 (by decide) hf209 (fun _ h9 => h9) rfl dX5_carry_33 ?_
  refine lv_iconst (v := 1) hx hb dX5_carry_36 (by decide) ?_
  refine lv_iadd hx hb dX5_carry_37 ?_
  refine va_put (D := D) (ci := 5) (v := .int ((om.1 22) + 1)) (ty := .int) (C := RX5) (T := TX5) (N := 24) hx hb hts hi5 tyX5 tyX5_ok nmX5 hown hK hP hD hS 0 rfl rfl 22 (by decide) hf209 (fun _ h9 => h9) rfl (by decide +kernel) rfl rfl (Nat.le_of_ble_eq_true rfl) dX5_carry_38 (fun H locs hP hD hS => ?_)
  rw [sw_m_m_s22] at hP hD
  have hP : va_P D vwCl (wX5 cI cZ hm am (us (ua om 20 (om.1 22).toNatClampNeg (if (om.1 23) = 0 then ((om.2 20) (om.1 22).toNatClampNeg) else p0)) 22 ((om.1 22) + 1))) H := hP
  have hD : va_D A (wX5 cI cZ hm am (us (ua om 20 (om.1 22).toNatClampNeg (if (om.1 23) = 0 then ((om.2 20) (om.1 22).toNatClampNeg) else p0)) 22 ((om.1 22) + 1))) := hD
  refine lv_iload_n hx hb dX5_carry_41 rfl (lv_at hl 0 rfl) ?_
  have e9 : fX5_carry om p0 = ((if (om.1 23) = 0 then ((om.2 20) (om.1 22).toNatClampNeg) else p0), (us (ua om 20 (om.1 22).toNatClampNeg (if (om.1 23) = 0 then ((om.2 20) (om.1 22).toNatClampNeg) else p0)) 22 ((om.1 22) + 1))) := by
    rfl
  exact W.iret hx hb hr (fun t ht hW => ⟨⟨_, (us (ua om 20 (om.1 22).toNatClampNeg (if (om.1 23) = 0 then ((om.2 20) (om.1 22).toNatClampNeg) else p0)) 22 ((om.1 22) + 1)), rfl, ⟨by rw [e9], by rw [e9]⟩, ⟨by rw [ht]; exact hP, hD⟩⟩, hS.F ht⟩) hS.2.2 dX5_carry_42

set_option maxHeartbeats 4000000 in
set_option maxRecDepth 100000 in
theorem kX5_passAll (l : Launch) (D : va_G) (cI cZ cC : ClassId) (hm : Nat) (am : Nat → Nat) (om : OV)  (hb9 : ∃ b : Nat, b + 46 ≤ 160 ∧ om.1 22 = nI b) {sz : Nat} : Met l yX5_passAll wsX5_passAll ({ frames := 1, cells := 0, slots := 0, locals := 22 }) (pW D (tyv cI cZ cC) (wX5 cI cZ hm am om) sz [.ref hm]) (va_Qv (fun (u : OV) => u = fX5_passAll om) (qW D (fun (u : OV) => wX5 cI cZ hm am u) (va_A (wX5 cI cZ hm am om) sz)) (va_A (wX5 cI cZ hm am om) sz)) 0 0 (va_A (wX5 cI cZ hm am om) sz) := by
  refine Met.ofW (cc := cX5_passAll) (maxL := 2) (ret := none) (by decide) rfl ?_
  intro p e s m args below meth c s₁ B hml hv
  obtain ⟨rfl, hsz, hP, hK, hN, hD0⟩ := hv
  have hx := B.exec
  have hb := B.bytes
  have hr := B.returns
  have hts := atoms_spec (ws := wsX5_passAll) B.pre
  have hown : s.vm.findClass RX5 = some m.cls := findClass_of_methodNamed B.named
  have hlocks := B.notSynchronized
  subst hsz
  have hD := hD0.self (sz := s.heap.size)
  generalize hAe : va_A (wX5 cI cZ hm am om) s.heap.size = A at hD ⊢
  have hA : ∀ q : Nat, s.heap.size ≤ q → A q := fun q h => by rw [← hAe]; exact Or.inr h
  have hS : va_S A s.heap s.heap [] := va_S.rf
  have hP : va_P D vwCl (wX5 cI cZ hm am om) s.heap := hP
  have hl := lv_entry ([.ref hm]) (n := 2) (Nat.le_of_ble_eq_true rfl)
  rw [lg_entry_eq]
  generalize (lg_sl ([.ref hm]) ++ List.replicate (2 - (lg_sl ([.ref hm])).length) Slot.unset).toArray = ls at hl ⊢
  have hl : lv_has ls 2 [(0, .ref hm)] := hl
  have hSF : CallFix p m c cX5_passAll 2 s _ wsX5_passAll RX5 := ⟨hx, hb, hml, hown, hts⟩
  have hi5 : ∀ w ∈ wsX50, w ∈ wsX5_passAll := by decide +kernel
  have hf63 : (Cond.fieldLink RX5 63 "UmbrellaVoteModel" "there" "I").before _ s = true := hts _ (by decide +kernel)
  have hf69 : (Cond.fieldLink RX5 69 "UmbrellaVoteModel" "holes" "I").before _ s = true := hts _ (by decide +kernel)
  have hf79 : (Cond.fieldLink RX5 79 "UmbrellaVoteModel" "tables" "I").before _ s = true := hts _ (by decide +kernel)
  have hf44 : (Cond.fieldLink RX5 44 "UmbrellaVoteModel" "spread" "I").before _ s = true := hts _ (by decide +kernel)
  have hf48 : (Cond.fieldLink RX5 48 "UmbrellaVoteModel" "shade" "I").before _ s = true := hts _ (by decide +kernel)
  have hf189 : (Cond.fieldLink RX5 189 "UmbrellaVoteModel" "sights" "I").before _ s = true := hts _ (by decide +kernel)
  have hf7 : (Cond.fieldLink RX5 7 "UmbrellaVoteModel" "placeOf" "[I").before _ s = true := hts _ (by decide +kernel)
  have hf13 : (Cond.fieldLink RX5 13 "UmbrellaVoteModel" "slowOf" "[I").before _ s = true := hts _ (by decide +kernel)
  have hf16 : (Cond.fieldLink RX5 16 "UmbrellaVoteModel" "partyOf" "[I").before _ s = true := hts _ (by decide +kernel)
  have hf22 : (Cond.fieldLink RX5 22 "UmbrellaVoteModel" "sightHow" "[I").before _ s = true := hts _ (by decide +kernel)
  have hf25 : (Cond.fieldLink RX5 25 "UmbrellaVoteModel" "sightOf" "[I").before _ s = true := hts _ (by decide +kernel)
  have hf19 : (Cond.fieldLink RX5 19 "UmbrellaVoteModel" "weight" "[I").before _ s = true := hts _ (by decide +kernel)
  refine lv_aload_n hx hb dX5_passAll_0 rfl (lv_at hl 0 rfl) ?_
  refine lv_aload_n hx hb dX5_passAll_1 rfl (lv_at hl 0 rfl) ?_
  refine lv_aload_n hx hb dX5_passAll_2 rfl (lv_at hl 0 rfl) ?_
  refine va_get (D := D) (ci := 5) (v := .int (om.1 0)) (C := RX5) (T := TX5) (N := 24) hx hb hts hi5 hown hK hP 0 rfl rfl 0 (by decide) hf63 (fun _ h9 => h9) rfl dX5_passAll_3 ?_
  refine wcVi (b := hm) (As := [.int (om.1 0)]) (rest := [.ref hm]) (wr := []) (ws' := wX5 cI cZ hm am (fX5_carry om (om.1 0)).2) hSF (kX5_carry l D cI cZ cC hm am om (om.1 0) (by obtain ⟨b9, hb9, h0⟩ := hb9; exact ka_in h0 (by omega))) (cwV 1 hts gX5_passAll_X5_carry rfl rfl rfl (by decide +kernel) ⟨Nat.le_of_ble_eq_true rfl, Nat.le_of_ble_eq_true rfl⟩) (va_recv hK hP (ci := 5) (q0 := 0) rfl rfl) hP hD hS hA hK hN [0, 1, 2, 3, 4, 5, 6, 7, 8, 9, 10, 11] [] [0, 1, 2, 3, 4, 5, 6, 7, 8, 9, 10, 11] rfl (by decide) rfl (by decide) (by decide) rfl (by decide) rfl rfl hl.1 (Nat.le_of_ble_eq_true rfl) dX5_passAll_6 ⟨Nat.zero_le _, Nat.zero_le _⟩ (fun H locs hP hD hS => ?_)
  generalize ec1 : (fX5_carry om (om.1 0)) = y1 at hP hD ⊢
  obtain ⟨v1, om1c⟩ := y1
  dsimp only at hP hD ⊢
  have hP : va_P D vwCl (wX5 cI cZ hm am om1c) H := hP
  have hD : va_D A (wX5 cI cZ hm am om1c) := hD
  refine va_put (D := D) (ci := 5) (v := .int v1) (ty := .int) (C := RX5) (T := TX5) (N := 24) hx hb hts hi5 tyX5 tyX5_ok nmX5 hown hK hP hD hS 0 rfl rfl 0 (by decide) hf63 (fun _ h9 => h9) rfl (by decide +kernel) rfl rfl (Nat.le_of_ble_eq_true rfl) dX5_passAll_9 (fun H locs hP hD hS => ?_)
  have hP : va_P D vwCl (wX5 cI cZ hm am (us om1c 0 v1)) H := hP
  have hD : va_D A (wX5 cI cZ hm am (us om1c 0 v1)) := hD
  refine lv_aload_n hx hb dX5_passAll_12 rfl (lv_at hl 0 rfl) ?_
  refine lv_aload_n hx hb dX5_passAll_13 rfl (lv_at hl 0 rfl) ?_
  refine lv_aload_n hx hb dX5_passAll_14 rfl (lv_at hl 0 rfl) ?_
  refine va_get (D := D) (ci := 5) (v := .int (om1c.1 4)) (C := RX5) (T := TX5) (N := 24) hx hb hts hi5 hown hK hP 0 rfl rfl 4 (by decide) hf69 (fun _ h9 => h9) rfl dX5_passAll_15 ?_
  refine wcVi (b := hm) (As := [.int (om1c.1 4)]) (rest := [.ref hm]) (wr := []) (ws' := wX5 cI cZ hm am (fX5_carry (us om1c 0 v1) (om1c.1 4)).2) hSF (kX5_carry l D cI cZ cC hm am (us om1c 0 v1) (om1c.1 4) (by obtain ⟨b9, hb9, h0⟩ := hb9; exact ka_in (KA_us (by decide) (KA_cr ec1 h0)) (by omega))) (cwV 1 hts gX5_passAll_X5_carry rfl rfl rfl (by decide +kernel) ⟨Nat.le_of_ble_eq_true rfl, Nat.le_of_ble_eq_true rfl⟩) (va_recv hK hP (ci := 5) (q0 := 0) rfl rfl) hP hD hS hA hK hN [0, 1, 2, 3, 4, 5, 6, 7, 8, 9, 10, 11] [] [0, 1, 2, 3, 4, 5, 6, 7, 8, 9, 10, 11] rfl (by decide) rfl (by decide) (by decide) rfl (by decide) rfl rfl hl.1 (Nat.le_of_ble_eq_true rfl) dX5_passAll_18 ⟨Nat.zero_le _, Nat.zero_le _⟩ (fun H locs hP hD hS => ?_)
  generalize ec2 : (fX5_carry (us om1c 0 v1) (om1c.1 4)) = y2 at hP hD ⊢
  obtain ⟨v2, om2c⟩ := y2
  dsimp only at hP hD ⊢
  have hP : va_P D vwCl (wX5 cI cZ hm am om2c) H := hP
  have hD : va_D A (wX5 cI cZ hm am om2c) := hD
  refine va_put (D := D) (ci := 5) (v := .int v2) (ty := .int) (C := RX5) (T := TX5) (N := 24) hx hb hts hi5 tyX5 tyX5_ok nmX5 hown hK hP hD hS 0 rfl rfl 4 (by decide) hf69 (fun _ h9 => h9) rfl (by decide +kernel) rfl rfl (Nat.le_of_ble_eq_true rfl) dX5_passAll_21 (fun H locs hP hD hS => ?_)
  have hP : va_P D vwCl (wX5 cI cZ hm am (us om2c 4 v2)) H := hP
  have hD : va_D A (wX5 cI cZ hm am (us om2c 4 v2)) := hD
  refine lv_aload_n hx hb dX5_passAll_24 rfl (lv_at hl 0 rfl) ?_
  refine lv_aload_n hx hb dX5_passAll_25 rfl (lv_at hl 0 rfl) ?_
  refine lv_aload_n hx hb dX5_passAll_26 rfl (lv_at hl 0 rfl) ?_
  refine va_get (D := D) (ci := 5) (v := .int (om2c.1 5)) (C := RX5) (T := TX5) (N := 24) hx hb hts hi5 hown hK hP 0 rfl rfl 5 (by decide) hf79 (fun _ h9 => h9) rfl dX5_passAll_27 ?_
  refine wcVi (b := hm) (As := [.int (om2c.1 5)]) (rest := [.ref hm]) (wr := []) (ws' := wX5 cI cZ hm am (fX5_carry (us om2c 4 v2) (om2c.1 5)).2) hSF (kX5_carry l D cI cZ cC hm am (us om2c 4 v2) (om2c.1 5) (by obtain ⟨b9, hb9, h0⟩ := hb9; exact ka_in (KA_us (by decide) (KA_cr ec2 (KA_us (by decide) (KA_cr ec1 h0)))) (by omega))) (cwV 1 hts gX5_passAll_X5_carry rfl rfl rfl (by decide +kernel) ⟨Nat.le_of_ble_eq_true rfl, Nat.le_of_ble_eq_true rfl⟩) (va_recv hK hP (ci := 5) (q0 := 0) rfl rfl) hP hD hS hA hK hN [0, 1, 2, 3, 4, 5, 6, 7, 8, 9, 10, 11] [] [0, 1, 2, 3, 4, 5, 6, 7, 8, 9, 10, 11] rfl (by decide) rfl (by decide) (by decide) rfl (by decide) rfl rfl hl.1 (Nat.le_of_ble_eq_true rfl) dX5_passAll_30 ⟨Nat.zero_le _, Nat.zero_le _⟩ (fun H locs hP hD hS => ?_)
  generalize ec3 : (fX5_carry (us om2c 4 v2) (om2c.1 5)) = y3 at hP hD ⊢
  obtain ⟨v3, om3c⟩ := y3
  dsimp only at hP hD ⊢
  have hP : va_P D vwCl (wX5 cI cZ hm am om3c) H := hP
  have hD : va_D A (wX5 cI cZ hm am om3c) := hD
  refine va_put (D := D) (ci := 5) (v := .int v3) (ty := .int) (C := RX5) (T := TX5) (N := 24) hx hb hts hi5 tyX5 tyX5_ok nmX5 hown hK hP hD hS 0 rfl rfl 5 (by decide) hf79 (fun _ h9 => h9) rfl (by decide +kernel) rfl rfl (Nat.le_of_ble_eq_true rfl) dX5_passAll_33 (fun H locs hP hD hS => ?_)
  have hP : va_P D vwCl (wX5 cI cZ hm am (us om3c 5 v3)) H := hP
  have hD : va_D A (wX5 cI cZ hm am (us om3c 5 v3)) := hD
  refine lv_aload_n hx hb dX5_passAll_36 rfl (lv_at hl 0 rfl) ?_
  refine lv_aload_n hx hb dX5_passAll_37 rfl (lv_at hl 0 rfl) ?_
  refine lv_aload_n hx hb dX5_passAll_38 rfl (lv_at hl 0 rfl) ?_
  refine va_get (D := D) (ci := 5) (v := .int (om3c.1 6)) (C := RX5) (T := TX5) (N := 24) hx hb hts hi5 hown hK hP 0 rfl rfl 6 (by decide) hf44 (fun _ h9 => h9) rfl dX5_passAll_39 ?_
  refine wcVi (b := hm) (As := [.int (om3c.1 6)]) (rest := [.ref hm]) (wr := []) (ws' := wX5 cI cZ hm am (fX5_carry (us om3c 5 v3) (om3c.1 6)).2) hSF (kX5_carry l D cI cZ cC hm am (us om3c 5 v3) (om3c.1 6) (by obtain ⟨b9, hb9, h0⟩ := hb9; exact ka_in (KA_us (by decide) (KA_cr ec3 (KA_us (by decide) (KA_cr ec2 (KA_us (by decide) (KA_cr ec1 h0)))))) (by omega))) (cwV 1 hts gX5_passAll_X5_carry rfl rfl rfl (by decide +kernel) ⟨Nat.le_of_ble_eq_true rfl, Nat.le_of_ble_eq_true rfl⟩) (va_recv hK hP (ci := 5) (q0 := 0) rfl rfl) hP hD hS hA hK hN [0, 1, 2, 3, 4, 5, 6, 7, 8, 9, 10, 11] [] [0, 1, 2, 3, 4, 5, 6, 7, 8, 9, 10, 11] rfl (by decide) rfl (by decide) (by decide) rfl (by decide) rfl rfl hl.1 (Nat.le_of_ble_eq_true rfl) dX5_passAll_42 ⟨Nat.zero_le _, Nat.zero_le _⟩ (fun H locs hP hD hS => ?_)
  generalize ec4 : (fX5_carry (us om3c 5 v3) (om3c.1 6)) = y4 at hP hD ⊢
  obtain ⟨v4, om4c⟩ := y4
  dsimp only at hP hD ⊢
  have hP : va_P D vwCl (wX5 cI cZ hm am om4c) H := hP
  have hD : va_D A (wX5 cI cZ hm am om4c) := hD
  refine va_put (D := D) (ci := 5) (v := .int v4) (ty := .int) (C := RX5) (T := TX5) (N := 24) hx hb hts hi5 tyX5 tyX5_ok nmX5 hown hK hP hD hS 0 rfl rfl 6 (by decide) hf44 (fun _ h9 => h9) rfl (by decide +kernel) rfl rfl (Nat.le_of_ble_eq_true rfl) dX5_passAll_45 (fun H locs hP hD hS => ?_)
  have hP : va_P D vwCl (wX5 cI cZ hm am (us om4c 6 v4)) H := hP
  have hD : va_D A (wX5 cI cZ hm am (us om4c 6 v4)) := hD
  refine lv_aload_n hx hb dX5_passAll_48 rfl (lv_at hl 0 rfl) ?_
  refine lv_aload_n hx hb dX5_passAll_49 rfl (lv_at hl 0 rfl) ?_
  refine lv_aload_n hx hb dX5_passAll_50 rfl (lv_at hl 0 rfl) ?_
  refine va_get (D := D) (ci := 5) (v := .int (om4c.1 7)) (C := RX5) (T := TX5) (N := 24) hx hb hts hi5 hown hK hP 0 rfl rfl 7 (by decide) hf48 (fun _ h9 => h9) rfl dX5_passAll_51 ?_
  refine wcVi (b := hm) (As := [.int (om4c.1 7)]) (rest := [.ref hm]) (wr := []) (ws' := wX5 cI cZ hm am (fX5_carry (us om4c 6 v4) (om4c.1 7)).2) hSF (kX5_carry l D cI cZ cC hm am (us om4c 6 v4) (om4c.1 7) (by obtain ⟨b9, hb9, h0⟩ := hb9; exact ka_in (KA_us (by decide) (KA_cr ec4 (KA_us (by decide) (KA_cr ec3 (KA_us (by decide) (KA_cr ec2 (KA_us (by decide) (KA_cr ec1 h0)))))))) (by omega))) (cwV 1 hts gX5_passAll_X5_carry rfl rfl rfl (by decide +kernel) ⟨Nat.le_of_ble_eq_true rfl, Nat.le_of_ble_eq_true rfl⟩) (va_recv hK hP (ci := 5) (q0 := 0) rfl rfl) hP hD hS hA hK hN [0, 1, 2, 3, 4, 5, 6, 7, 8, 9, 10, 11] [] [0, 1, 2, 3, 4, 5, 6, 7, 8, 9, 10, 11] rfl (by decide) rfl (by decide) (by decide) rfl (by decide) rfl rfl hl.1 (Nat.le_of_ble_eq_true rfl) dX5_passAll_54 ⟨Nat.zero_le _, Nat.zero_le _⟩ (fun H locs hP hD hS => ?_)
  generalize ec5 : (fX5_carry (us om4c 6 v4) (om4c.1 7)) = y5 at hP hD ⊢
  obtain ⟨v5, om5c⟩ := y5
  dsimp only at hP hD ⊢
  have hP : va_P D vwCl (wX5 cI cZ hm am om5c) H := hP
  have hD : va_D A (wX5 cI cZ hm am om5c) := hD
  refine va_put (D := D) (ci := 5) (v := .int v5) (ty := .int) (C := RX5) (T := TX5) (N := 24) hx hb hts hi5 tyX5 tyX5_ok nmX5 hown hK hP hD hS 0 rfl rfl 7 (by decide) hf48 (fun _ h9 => h9) rfl (by decide +kernel) rfl rfl (Nat.le_of_ble_eq_true rfl) dX5_passAll_57 (fun H locs hP hD hS => ?_)
  have hP : va_P D vwCl (wX5 cI cZ hm am (us om5c 7 v5)) H := hP
  have hD : va_D A (wX5 cI cZ hm am (us om5c 7 v5)) := hD
  refine lv_aload_n hx hb dX5_passAll_60 rfl (lv_at hl 0 rfl) ?_
  refine lv_aload_n hx hb dX5_passAll_61 rfl (lv_at hl 0 rfl) ?_
  refine lv_aload_n hx hb dX5_passAll_62 rfl (lv_at hl 0 rfl) ?_
  refine va_get (D := D) (ci := 5) (v := .int (om5c.1 11)) (C := RX5) (T := TX5) (N := 24) hx hb hts hi5 hown hK hP 0 rfl rfl 11 (by decide) hf189 (fun _ h9 => h9) rfl dX5_passAll_63 ?_
  refine wcVi (b := hm) (As := [.int (om5c.1 11)]) (rest := [.ref hm]) (wr := []) (ws' := wX5 cI cZ hm am (fX5_carry (us om5c 7 v5) (om5c.1 11)).2) hSF (kX5_carry l D cI cZ cC hm am (us om5c 7 v5) (om5c.1 11) (by obtain ⟨b9, hb9, h0⟩ := hb9; exact ka_in (KA_us (by decide) (KA_cr ec5 (KA_us (by decide) (KA_cr ec4 (KA_us (by decide) (KA_cr ec3 (KA_us (by decide) (KA_cr ec2 (KA_us (by decide) (KA_cr ec1 h0)))))))))) (by omega))) (cwV 1 hts gX5_passAll_X5_carry rfl rfl rfl (by decide +kernel) ⟨Nat.le_of_ble_eq_true rfl, Nat.le_of_ble_eq_true rfl⟩) (va_recv hK hP (ci := 5) (q0 := 0) rfl rfl) hP hD hS hA hK hN [0, 1, 2, 3, 4, 5, 6, 7, 8, 9, 10, 11] [] [0, 1, 2, 3, 4, 5, 6, 7, 8, 9, 10, 11] rfl (by decide) rfl (by decide) (by decide) rfl (by decide) rfl rfl hl.1 (Nat.le_of_ble_eq_true rfl) dX5_passAll_66 ⟨Nat.zero_le _, Nat.zero_le _⟩ (fun H locs hP hD hS => ?_)
  generalize ec6 : (fX5_carry (us om5c 7 v5) (om5c.1 11)) = y6 at hP hD ⊢
  obtain ⟨v6, om6c⟩ := y6
  dsimp only at hP hD ⊢
  have hP : va_P D vwCl (wX5 cI cZ hm am om6c) H := hP
  have hD : va_D A (wX5 cI cZ hm am om6c) := hD
  refine va_put (D := D) (ci := 5) (v := .int v6) (ty := .int) (C := RX5) (T := TX5) (N := 24) hx hb hts hi5 tyX5 tyX5_ok nmX5 hown hK hP hD hS 0 rfl rfl 11 (by decide) hf189 (fun _ h9 => h9) rfl (by decide +kernel) rfl rfl (Nat.le_of_ble_eq_true rfl) dX5_passAll_69 (fun H locs hP hD hS => ?_)
  have hP : va_P D vwCl (wX5 cI cZ hm am (us om6c 11 v6)) H := hP
  have hD : va_D A (wX5 cI cZ hm am (us om6c 11 v6)) := hD
  refine lv_iconst (v := 0) hx hb dX5_passAll_72 (by decide) ?_
  refine lv_istore_n (lv' := [(1, .int 0), (0, .ref hm)]) hx hb dX5_passAll_73 rfl hl (by decide) rfl (fun ls hl => ?_)
  refine W_lpW (6) (fun k9 H9 locs9 ls9 => va_P D vwCl (wX5 cI cZ hm am (fX5_passAll_L74 (us om6c 11 v6) k9)) H9 ∧ va_D A (wX5 cI cZ hm am (fX5_passAll_L74 (us om6c 11 v6) k9)) ∧ va_S A s.heap H9 locs9 ∧ lv_has ls9 2 [(1, .int (nI k9)), (0, .ref hm)]) ⟨hP, hD, hS, lv_sub hl [0, 1] rfl⟩ ?_ ?_
  · intro k7 H locs ls hk7 hI9 ih7
    obtain ⟨hP, hD, hS, hl⟩ := hI9
    generalize hs7 : fX5_passAll_L74 (us om6c 11 v6) k7 = y7 at hP hD hl
    obtain ⟨om7, en7⟩ : ∃ z, z = y7 := ⟨_, rfl⟩
    subst en7
    have hP : va_P D vwCl (wX5 cI cZ hm am om7) H := hP
    have hD : va_D A (wX5 cI cZ hm am om7) := hD
    have hl : lv_has ls 2 [(1, .int (nI k7)), (0, .ref hm)] := hl
    refine lv_iload_n hx hb dX5_passAll_74 rfl (lv_at hl 0 rfl) ?_
    refine lv_bipush (v := 6) hx hb dX5_passAll_75 (by decide) ?_
    refine lv_icmp_ge (tgt := 166) hx hb dX5_passAll_77 (by decide) (fun c8 => absurd c8 (nI_ge hk7 (by decide))) (fun c8 => ?_)
    refine lv_aload_n hx hb dX5_passAll_80 rfl (lv_at hl 1 rfl) ?_
    refine va_get (D := D) (ci := 5) (v := .ref (am 1)) (C := RX5) (T := TX5) (N := 24) hx hb hts hi5 hown hK hP 0 rfl rfl 1 (by decide) hf7 (fun _ h9 => h9) rfl dX5_passAll_81 ?_
    refine lv_iload_n hx hb dX5_passAll_84 rfl (lv_at hl 0 rfl) ?_
    refine lv_aload_n hx hb dX5_passAll_85 rfl (lv_at hl 1 rfl) ?_
    refine lv_aload_n hx hb dX5_passAll_86 rfl (lv_at hl 1 rfl) ?_
    refine va_get (D := D) (ci := 5) (v := .ref (am 1)) (C := RX5) (T := TX5) (N := 24) hx hb hts hi5 hown hK hP 0 rfl rfl 1 (by decide) hf7 (fun _ h9 => h9) rfl dX5_passAll_87 ?_
    refine lv_iload_n hx hb dX5_passAll_90 rfl (lv_at hl 0 rfl) ?_
    refine va_iald (f := (om7.2 1)) hx hb hK hP 1 0 rfl rfl (vp_in_nI (Nat.lt_of_lt_of_le hk7 (by decide)) (by decide)) dX5_passAll_91 ?_
    refine wcVi (b := hm) (As := [.int ((om7.2 1) (nI k7).toNatClampNeg)]) (rest := [.int (nI k7), .ref (am 1)]) (wr := []) (ws' := wX5 cI cZ hm am (fX5_carry om7 ((om7.2 1) (nI k7).toNatClampNeg)).2) hSF (kX5_carry l D cI cZ cC hm am om7 ((om7.2 1) (nI k7).toNatClampNeg) (by obtain ⟨b9, hb9, h0⟩ := hb9; exact ka_in (pa_74 hs7 hk7 (KA_us (by decide) (KA_cr ec6 (KA_us (by decide) (KA_cr ec5 (KA_us (by decide) (KA_cr ec4 (KA_us (by decide) (KA_cr ec3 (KA_us (by decide) (KA_cr ec2 (KA_us (by decide) (KA_cr ec1 h0))))))))))))) (by omega))) (cwV 1 hts gX5_passAll_X5_carry rfl rfl rfl (by decide +kernel) ⟨Nat.le_of_ble_eq_true rfl, Nat.le_of_ble_eq_true rfl⟩) (va_recv hK hP (ci := 5) (q0 := 0) rfl rfl) hP hD hS hA hK hN [0, 1, 2, 3, 4, 5, 6, 7, 8, 9, 10, 11] [] [0, 1, 2, 3, 4, 5, 6, 7, 8, 9, 10, 11] rfl (by decide) rfl (by decide) (by decide) rfl (by decide) rfl rfl hl.1 (Nat.le_of_ble_eq_true rfl) dX5_passAll_92 ⟨Nat.zero_le _, Nat.zero_le _⟩ (fun H locs hP hD hS => ?_)
    generalize ec9 : (fX5_carry om7 ((om7.2 1) (nI k7).toNatClampNeg)) = y9 at hP hD ⊢
    obtain ⟨v9, om9c⟩ := y9
    dsimp only at hP hD ⊢
    have hP : va_P D vwCl (wX5 cI cZ hm am om9c) H := hP
    have hD : va_D A (wX5 cI cZ hm am om9c) := hD
    refine va_iast hx hb hK hP hD hS 1 0 rfl rfl (vp_in_nI (Nat.lt_of_lt_of_le hk7 (by decide)) (by decide)) dX5_passAll_95 (fun H locs hP hD hS => ?_)
    have hP : va_P D vwCl (wX5 cI cZ hm am (ua om9c 1 (nI k7).toNatClampNeg v9)) H := hP
    have hD : va_D A (wX5 cI cZ hm am (ua om9c 1 (nI k7).toNatClampNeg v9)) := hD
    refine lv_aload_n hx hb dX5_passAll_96 rfl (lv_at hl 1 rfl) ?_
    refine va_get (D := D) (ci := 5) (v := .ref (am 2)) (C := RX5) (T := TX5) (N := 24) hx hb hts hi5 hown hK hP 0 rfl rfl 2 (by decide) hf13 (fun _ h9 => h9) rfl dX5_passAll_97 ?_
    refine lv_iload_n hx hb dX5_passAll_100 rfl (lv_at hl 0 rfl) ?_
    refine lv_aload_n hx hb dX5_passAll_101 rfl (lv_at hl 1 rfl) ?_
    refine lv_aload_n hx hb dX5_passAll_102 rfl (lv_at hl 1 rfl) ?_
    refine va_get (D := D) (ci := 5) (v := .ref (am 2)) (C := RX5) (T := TX5) (N := 24) hx hb hts hi5 hown hK hP 0 rfl rfl 2 (by decide) hf13 (fun _ h9 => h9) rfl dX5_passAll_103 ?_
    refine lv_iload_n hx hb dX5_passAll_106 rfl (lv_at hl 0 rfl) ?_
    refine va_iald (f := (om9c.2 2)) hx hb hK hP 2 0 rfl rfl (vp_in_nI (Nat.lt_of_lt_of_le hk7 (by decide)) (by decide)) dX5_passAll_107 ?_
    refine wcVi (b := hm) (As := [.int ((om9c.2 2) (nI k7).toNatClampNeg)]) (rest := [.int (nI k7), .ref (am 2)]) (wr := []) (ws' := wX5 cI cZ hm am (fX5_carry (ua om9c 1 (nI k7).toNatClampNeg v9) ((om9c.2 2) (nI k7).toNatClampNeg)).2) hSF (kX5_carry l D cI cZ cC hm am (ua om9c 1 (nI k7).toNatClampNeg v9) ((om9c.2 2) (nI k7).toNatClampNeg) (by obtain ⟨b9, hb9, h0⟩ := hb9; exact ka_in (KA_ua (KA_cr ec9 (pa_74 hs7 hk7 (KA_us (by decide) (KA_cr ec6 (KA_us (by decide) (KA_cr ec5 (KA_us (by decide) (KA_cr ec4 (KA_us (by decide) (KA_cr ec3 (KA_us (by decide) (KA_cr ec2 (KA_us (by decide) (KA_cr ec1 h0))))))))))))))) (by omega))) (cwV 1 hts gX5_passAll_X5_carry rfl rfl rfl (by decide +kernel) ⟨Nat.le_of_ble_eq_true rfl, Nat.le_of_ble_eq_true rfl⟩) (va_recv hK hP (ci := 5) (q0 := 0) rfl rfl) hP hD hS hA hK hN [0, 1, 2, 3, 4, 5, 6, 7, 8, 9, 10, 11] [] [0, 1, 2, 3, 4, 5, 6, 7, 8, 9, 10, 11] rfl (by decide) rfl (by decide) (by decide) rfl (by decide) rfl rfl hl.1 (Nat.le_of_ble_eq_true rfl) dX5_passAll_108 ⟨Nat.zero_le _, Nat.zero_le _⟩ (fun H locs hP hD hS => ?_)
    generalize ec10 : (fX5_carry (ua om9c 1 (nI k7).toNatClampNeg v9) ((om9c.2 2) (nI k7).toNatClampNeg)) = y10 at hP hD ⊢
    obtain ⟨v10, om10c⟩ := y10
    dsimp only at hP hD ⊢
    have hP : va_P D vwCl (wX5 cI cZ hm am om10c) H := hP
    have hD : va_D A (wX5 cI cZ hm am om10c) := hD
    refine va_iast hx hb hK hP hD hS 2 0 rfl rfl (vp_in_nI (Nat.lt_of_lt_of_le hk7 (by decide)) (by decide)) dX5_passAll_111 (fun H locs hP hD hS => ?_)
    have hP : va_P D vwCl (wX5 cI cZ hm am (ua om10c 2 (nI k7).toNatClampNeg v10)) H := hP
    have hD : va_D A (wX5 cI cZ hm am (ua om10c 2 (nI k7).toNatClampNeg v10)) := hD
    refine lv_aload_n hx hb dX5_passAll_112 rfl (lv_at hl 1 rfl) ?_
    refine va_get (D := D) (ci := 5) (v := .ref (am 3)) (C := RX5) (T := TX5) (N := 24) hx hb hts hi5 hown hK hP 0 rfl rfl 3 (by decide) hf16 (fun _ h9 => h9) rfl dX5_passAll_113 ?_
    refine lv_iload_n hx hb dX5_passAll_116 rfl (lv_at hl 0 rfl) ?_
    refine lv_aload_n hx hb dX5_passAll_117 rfl (lv_at hl 1 rfl) ?_
    refine lv_aload_n hx hb dX5_passAll_118 rfl (lv_at hl 1 rfl) ?_
    refine va_get (D := D) (ci := 5) (v := .ref (am 3)) (C := RX5) (T := TX5) (N := 24) hx hb hts hi5 hown hK hP 0 rfl rfl 3 (by decide) hf16 (fun _ h9 => h9) rfl dX5_passAll_119 ?_
    refine lv_iload_n hx hb dX5_passAll_122 rfl (lv_at hl 0 rfl) ?_
    refine va_iald (f := (om10c.2 3)) hx hb hK hP 3 0 rfl rfl (vp_in_nI (Nat.lt_of_lt_of_le hk7 (by decide)) (by decide)) dX5_passAll_123 ?_
    refine wcVi (b := hm) (As := [.int ((om10c.2 3) (nI k7).toNatClampNeg)]) (rest := [.int (nI k7), .ref (am 3)]) (wr := []) (ws' := wX5 cI cZ hm am (fX5_carry (ua om10c 2 (nI k7).toNatClampNeg v10) ((om10c.2 3) (nI k7).toNatClampNeg)).2) hSF (kX5_carry l D cI cZ cC hm am (ua om10c 2 (nI k7).toNatClampNeg v10) ((om10c.2 3) (nI k7).toNatClampNeg) (by obtain ⟨b9, hb9, h0⟩ := hb9; exact ka_in (KA_ua (KA_cr ec10 (KA_ua (KA_cr ec9 (pa_74 hs7 hk7 (KA_us (by decide) (KA_cr ec6 (KA_us (by decide) (KA_cr ec5 (KA_us (by decide) (KA_cr ec4 (KA_us (by decide) (KA_cr ec3 (KA_us (by decide) (KA_cr ec2 (KA_us (by decide) (KA_cr ec1 h0))))))))))))))))) (by omega))) (cwV 1 hts gX5_passAll_X5_carry rfl rfl rfl (by decide +kernel) ⟨Nat.le_of_ble_eq_true rfl, Nat.le_of_ble_eq_true rfl⟩) (va_recv hK hP (ci := 5) (q0 := 0) rfl rfl) hP hD hS hA hK hN [0, 1, 2, 3, 4, 5, 6, 7, 8, 9, 10, 11] [] [0, 1, 2, 3, 4, 5, 6, 7, 8, 9, 10, 11] rfl (by decide) rfl (by decide) (by decide) rfl (by decide) rfl rfl hl.1 (Nat.le_of_ble_eq_true rfl) dX5_passAll_124 ⟨Nat.zero_le _, Nat.zero_le _⟩ (fun H locs hP hD hS => ?_)
    generalize ec11 : (fX5_carry (ua om10c 2 (nI k7).toNatClampNeg v10) ((om10c.2 3) (nI k7).toNatClampNeg)) = y11 at hP hD ⊢
    obtain ⟨v11, om11c⟩ := y11
    dsimp only at hP hD ⊢
    have hP : va_P D vwCl (wX5 cI cZ hm am om11c) H := hP
    have hD : va_D A (wX5 cI cZ hm am om11c) := hD
    refine va_iast hx hb hK hP hD hS 3 0 rfl rfl (vp_in_nI (Nat.lt_of_lt_of_le hk7 (by decide)) (by decide)) dX5_passAll_127 (fun H locs hP hD hS => ?_)
    have hP : va_P D vwCl (wX5 cI cZ hm am (ua om11c 3 (nI k7).toNatClampNeg v11)) H := hP
    have hD : va_D A (wX5 cI cZ hm am (ua om11c 3 (nI k7).toNatClampNeg v11)) := hD
    refine lv_aload_n hx hb dX5_passAll_128 rfl (lv_at hl 1 rfl) ?_
    refine va_get (D := D) (ci := 5) (v := .ref (am 9)) (C := RX5) (T := TX5) (N := 24) hx hb hts hi5 hown hK hP 0 rfl rfl 9 (by decide) hf22 (fun _ h9 => h9) rfl dX5_passAll_129 ?_
    refine lv_iload_n hx hb dX5_passAll_132 rfl (lv_at hl 0 rfl) ?_
    refine lv_aload_n hx hb dX5_passAll_133 rfl (lv_at hl 1 rfl) ?_
    refine lv_aload_n hx hb dX5_passAll_134 rfl (lv_at hl 1 rfl) ?_
    refine va_get (D := D) (ci := 5) (v := .ref (am 9)) (C := RX5) (T := TX5) (N := 24) hx hb hts hi5 hown hK hP 0 rfl rfl 9 (by decide) hf22 (fun _ h9 => h9) rfl dX5_passAll_135 ?_
    refine lv_iload_n hx hb dX5_passAll_138 rfl (lv_at hl 0 rfl) ?_
    refine va_iald (f := (om11c.2 9)) hx hb hK hP 5 0 rfl rfl (vp_in_nI (Nat.lt_of_lt_of_le hk7 (by decide)) (by decide)) dX5_passAll_139 ?_
    refine wcVi (b := hm) (As := [.int ((om11c.2 9) (nI k7).toNatClampNeg)]) (rest := [.int (nI k7), .ref (am 9)]) (wr := []) (ws' := wX5 cI cZ hm am (fX5_carry (ua om11c 3 (nI k7).toNatClampNeg v11) ((om11c.2 9) (nI k7).toNatClampNeg)).2) hSF (kX5_carry l D cI cZ cC hm am (ua om11c 3 (nI k7).toNatClampNeg v11) ((om11c.2 9) (nI k7).toNatClampNeg) (by obtain ⟨b9, hb9, h0⟩ := hb9; exact ka_in (KA_ua (KA_cr ec11 (KA_ua (KA_cr ec10 (KA_ua (KA_cr ec9 (pa_74 hs7 hk7 (KA_us (by decide) (KA_cr ec6 (KA_us (by decide) (KA_cr ec5 (KA_us (by decide) (KA_cr ec4 (KA_us (by decide) (KA_cr ec3 (KA_us (by decide) (KA_cr ec2 (KA_us (by decide) (KA_cr ec1 h0))))))))))))))))))) (by omega))) (cwV 1 hts gX5_passAll_X5_carry rfl rfl rfl (by decide +kernel) ⟨Nat.le_of_ble_eq_true rfl, Nat.le_of_ble_eq_true rfl⟩) (va_recv hK hP (ci := 5) (q0 := 0) rfl rfl) hP hD hS hA hK hN [0, 1, 2, 3, 4, 5, 6, 7, 8, 9, 10, 11] [] [0, 1, 2, 3, 4, 5, 6, 7, 8, 9, 10, 11] rfl (by decide) rfl (by decide) (by decide) rfl (by decide) rfl rfl hl.1 (Nat.le_of_ble_eq_true rfl) dX5_passAll_140 ⟨Nat.zero_le _, Nat.zero_le _⟩ (fun H locs hP hD hS => ?_)
    generalize ec12 : (fX5_carry (ua om11c 3 (nI k7).toNatClampNeg v11) ((om11c.2 9) (nI k7).toNatClampNeg)) = y12 at hP hD ⊢
    obtain ⟨v12, om12c⟩ := y12
    dsimp only at hP hD ⊢
    have hP : va_P D vwCl (wX5 cI cZ hm am om12c) H := hP
    have hD : va_D A (wX5 cI cZ hm am om12c) := hD
    refine va_iast hx hb hK hP hD hS 5 0 rfl rfl (vp_in_nI (Nat.lt_of_lt_of_le hk7 (by decide)) (by decide)) dX5_passAll_143 (fun H locs hP hD hS => ?_)
    have hP : va_P D vwCl (wX5 cI cZ hm am (ua om12c 9 (nI k7).toNatClampNeg v12)) H := hP
    have hD : va_D A (wX5 cI cZ hm am (ua om12c 9 (nI k7).toNatClampNeg v12)) := hD
    refine lv_aload_n hx hb dX5_passAll_144 rfl (lv_at hl 1 rfl) ?_
    refine va_get (D := D) (ci := 5) (v := .ref (am 10)) (C := RX5) (T := TX5) (N := 24) hx hb hts hi5 hown hK hP 0 rfl rfl 10 (by decide) hf25 (fun _ h9 => h9) rfl dX5_passAll_145 ?_
    refine lv_iload_n hx hb dX5_passAll_148 rfl (lv_at hl 0 rfl) ?_
    refine lv_aload_n hx hb dX5_passAll_149 rfl (lv_at hl 1 rfl) ?_
    refine lv_aload_n hx hb dX5_passAll_150 rfl (lv_at hl 1 rfl) ?_
    refine va_get (D := D) (ci := 5) (v := .ref (am 10)) (C := RX5) (T := TX5) (N := 24) hx hb hts hi5 hown hK hP 0 rfl rfl 10 (by decide) hf25 (fun _ h9 => h9) rfl dX5_passAll_151 ?_
    refine lv_iload_n hx hb dX5_passAll_154 rfl (lv_at hl 0 rfl) ?_
    refine va_iald (f := (om12c.2 10)) hx hb hK hP 6 0 rfl rfl (vp_in_nI (Nat.lt_of_lt_of_le hk7 (by decide)) (by decide)) dX5_passAll_155 ?_
    refine wcVi (b := hm) (As := [.int ((om12c.2 10) (nI k7).toNatClampNeg)]) (rest := [.int (nI k7), .ref (am 10)]) (wr := []) (ws' := wX5 cI cZ hm am (fX5_carry (ua om12c 9 (nI k7).toNatClampNeg v12) ((om12c.2 10) (nI k7).toNatClampNeg)).2) hSF (kX5_carry l D cI cZ cC hm am (ua om12c 9 (nI k7).toNatClampNeg v12) ((om12c.2 10) (nI k7).toNatClampNeg) (by obtain ⟨b9, hb9, h0⟩ := hb9; exact ka_in (KA_ua (KA_cr ec12 (KA_ua (KA_cr ec11 (KA_ua (KA_cr ec10 (KA_ua (KA_cr ec9 (pa_74 hs7 hk7 (KA_us (by decide) (KA_cr ec6 (KA_us (by decide) (KA_cr ec5 (KA_us (by decide) (KA_cr ec4 (KA_us (by decide) (KA_cr ec3 (KA_us (by decide) (KA_cr ec2 (KA_us (by decide) (KA_cr ec1 h0))))))))))))))))))))) (by omega))) (cwV 1 hts gX5_passAll_X5_carry rfl rfl rfl (by decide +kernel) ⟨Nat.le_of_ble_eq_true rfl, Nat.le_of_ble_eq_true rfl⟩) (va_recv hK hP (ci := 5) (q0 := 0) rfl rfl) hP hD hS hA hK hN [0, 1, 2, 3, 4, 5, 6, 7, 8, 9, 10, 11] [] [0, 1, 2, 3, 4, 5, 6, 7, 8, 9, 10, 11] rfl (by decide) rfl (by decide) (by decide) rfl (by decide) rfl rfl hl.1 (Nat.le_of_ble_eq_true rfl) dX5_passAll_156 ⟨Nat.zero_le _, Nat.zero_le _⟩ (fun H locs hP hD hS => ?_)
    generalize ec13 : (fX5_carry (ua om12c 9 (nI k7).toNatClampNeg v12) ((om12c.2 10) (nI k7).toNatClampNeg)) = y13 at hP hD ⊢
    obtain ⟨v13, om13c⟩ := y13
    dsimp only at hP hD ⊢
    have hP : va_P D vwCl (wX5 cI cZ hm am om13c) H := hP
    have hD : va_D A (wX5 cI cZ hm am om13c) := hD
    refine va_iast hx hb hK hP hD hS 6 0 rfl rfl (vp_in_nI (Nat.lt_of_lt_of_le hk7 (by decide)) (by decide)) dX5_passAll_159 (fun H locs hP hD hS => ?_)
    have hP : va_P D vwCl (wX5 cI cZ hm am (ua om13c 10 (nI k7).toNatClampNeg v13)) H := hP
    have hD : va_D A (wX5 cI cZ hm am (ua om13c 10 (nI k7).toNatClampNeg v13)) := hD
    refine lv_iinc (v := ((nI k7) + 1)) (lv' := [(1, .int ((nI k7) + 1)), (0, .ref hm)]) hx hb dX5_passAll_160 hl (k := 0) rfl rfl (by decide) rfl (fun ls hl => ?_)
    refine lv_goto (tgt := 74) hx hb dX5_passAll_163 (by decide) ?_
    have e8 : fX5_passAll_L74s k7 om7 = (ua om13c 10 (nI k7).toNatClampNeg v13) := by
      unfold fX5_passAll_L74s
      rw [ec9]
      try dsimp only
      unfold fX5_passAll_L74s_c9
      rw [ec10]
      try dsimp only
      unfold fX5_passAll_L74s_c9_c10
      rw [ec11]
      try dsimp only
      unfold fX5_passAll_L74s_c9_c10_c11
      rw [ec12]
      try dsimp only
      unfold fX5_passAll_L74s_c9_c10_c11_c12
      rw [ec13]
      try dsimp only
      rfl
    have e7 : fX5_passAll_L74 (us om6c 11 v6) (k7 + 1) = (ua om13c 10 (nI k7).toNatClampNeg v13) := by
      show fX5_passAll_L74s k7 (fX5_passAll_L74 (us om6c 11 v6) k7) = _
      rw [hs7]; exact e8
    have hl9 : lv_has ls 2 [(1, .int (nI (k7 + 1))), (0, .ref hm)] := by
      rw [nI_succ]; exact lv_sub hl [0, 1] rfl
    exact ih7 H locs ls ⟨by rw [e7]; exact hP, by rw [e7]; exact hD, hS, hl9⟩
  intro H locs ls hI9
  obtain ⟨hP, hD, hS, hl⟩ := hI9
  refine lv_iload_n hx hb dX5_passAll_74 rfl (lv_at hl 0 rfl) ?_
  refine lv_bipush (v := 6) hx hb dX5_passAll_75 (by decide) ?_
  refine lv_icmp_ge (tgt := 166) hx hb dX5_passAll_77 (by decide) (fun c14 => ?_) (fun c14 => absurd (nI_le (Nat.le_refl _) (by decide)) c14)
  refine lv_iconst (v := 0) hx hb dX5_passAll_166 (by decide) ?_
  refine lv_istore_n (lv' := [(1, .int 0), (0, .ref hm)]) hx hb dX5_passAll_167 rfl hl (by decide) rfl (fun ls hl => ?_)
  refine W_lpW (10) (fun k9 H9 locs9 ls9 => va_P D vwCl (wX5 cI cZ hm am (fX5_passAll_L168 (fX5_passAll_L74 (us om6c 11 v6) (6)) k9)) H9 ∧ va_D A (wX5 cI cZ hm am (fX5_passAll_L168 (fX5_passAll_L74 (us om6c 11 v6) (6)) k9)) ∧ va_S A s.heap H9 locs9 ∧ lv_has ls9 2 [(1, .int (nI k9)), (0, .ref hm)]) ⟨hP, hD, hS, lv_sub hl [0, 1] rfl⟩ ?_ ?_
  · intro k15 H locs ls hk15 hI9 ih15
    obtain ⟨hP, hD, hS, hl⟩ := hI9
    generalize hs15 : fX5_passAll_L168 (fX5_passAll_L74 (us om6c 11 v6) (6)) k15 = y15 at hP hD hl
    obtain ⟨om15, en15⟩ : ∃ z, z = y15 := ⟨_, rfl⟩
    subst en15
    have hP : va_P D vwCl (wX5 cI cZ hm am om15) H := hP
    have hD : va_D A (wX5 cI cZ hm am om15) := hD
    have hl : lv_has ls 2 [(1, .int (nI k15)), (0, .ref hm)] := hl
    refine lv_iload_n hx hb dX5_passAll_168 rfl (lv_at hl 0 rfl) ?_
    refine lv_bipush (v := 10) hx hb dX5_passAll_169 (by decide) ?_
    refine lv_icmp_ge (tgt := 196) hx hb dX5_passAll_171 (by decide) (fun c16 => absurd c16 (nI_ge hk15 (by decide))) (fun c16 => ?_)
    refine lv_aload_n hx hb dX5_passAll_174 rfl (lv_at hl 1 rfl) ?_
    refine va_get (D := D) (ci := 5) (v := .ref (am 8)) (C := RX5) (T := TX5) (N := 24) hx hb hts hi5 hown hK hP 0 rfl rfl 8 (by decide) hf19 (fun _ h9 => h9) rfl dX5_passAll_175 ?_
    refine lv_iload_n hx hb dX5_passAll_178 rfl (lv_at hl 0 rfl) ?_
    refine lv_aload_n hx hb dX5_passAll_179 rfl (lv_at hl 1 rfl) ?_
    refine lv_aload_n hx hb dX5_passAll_180 rfl (lv_at hl 1 rfl) ?_
    refine va_get (D := D) (ci := 5) (v := .ref (am 8)) (C := RX5) (T := TX5) (N := 24) hx hb hts hi5 hown hK hP 0 rfl rfl 8 (by decide) hf19 (fun _ h9 => h9) rfl dX5_passAll_181 ?_
    refine lv_iload_n hx hb dX5_passAll_184 rfl (lv_at hl 0 rfl) ?_
    refine va_iald (f := (om15.2 8)) hx hb hK hP 4 0 rfl rfl (vp_in_nI (Nat.lt_of_lt_of_le hk15 (by decide)) (by decide)) dX5_passAll_185 ?_
    refine wcVi (b := hm) (As := [.int ((om15.2 8) (nI k15).toNatClampNeg)]) (rest := [.int (nI k15), .ref (am 8)]) (wr := []) (ws' := wX5 cI cZ hm am (fX5_carry om15 ((om15.2 8) (nI k15).toNatClampNeg)).2) hSF (kX5_carry l D cI cZ cC hm am om15 ((om15.2 8) (nI k15).toNatClampNeg) (by obtain ⟨b9, hb9, h0⟩ := hb9; exact ka_in (pa_168 hs15 hk15 (pa_74 rfl (Nat.lt_succ_self 6) (KA_us (by decide) (KA_cr ec6 (KA_us (by decide) (KA_cr ec5 (KA_us (by decide) (KA_cr ec4 (KA_us (by decide) (KA_cr ec3 (KA_us (by decide) (KA_cr ec2 (KA_us (by decide) (KA_cr ec1 h0)))))))))))))) (by omega))) (cwV 1 hts gX5_passAll_X5_carry rfl rfl rfl (by decide +kernel) ⟨Nat.le_of_ble_eq_true rfl, Nat.le_of_ble_eq_true rfl⟩) (va_recv hK hP (ci := 5) (q0 := 0) rfl rfl) hP hD hS hA hK hN [0, 1, 2, 3, 4, 5, 6, 7, 8, 9, 10, 11] [] [0, 1, 2, 3, 4, 5, 6, 7, 8, 9, 10, 11] rfl (by decide) rfl (by decide) (by decide) rfl (by decide) rfl rfl hl.1 (Nat.le_of_ble_eq_true rfl) dX5_passAll_186 ⟨Nat.zero_le _, Nat.zero_le _⟩ (fun H locs hP hD hS => ?_)
    generalize ec17 : (fX5_carry om15 ((om15.2 8) (nI k15).toNatClampNeg)) = y17 at hP hD ⊢
    obtain ⟨v17, om17c⟩ := y17
    dsimp only at hP hD ⊢
    have hP : va_P D vwCl (wX5 cI cZ hm am om17c) H := hP
    have hD : va_D A (wX5 cI cZ hm am om17c) := hD
    refine va_iast hx hb hK hP hD hS 4 0 rfl rfl (vp_in_nI (Nat.lt_of_lt_of_le hk15 (by decide)) (by decide)) dX5_passAll_189 (fun H locs hP hD hS => ?_)
    have hP : va_P D vwCl (wX5 cI cZ hm am (ua om17c 8 (nI k15).toNatClampNeg v17)) H := hP
    have hD : va_D A (wX5 cI cZ hm am (ua om17c 8 (nI k15).toNatClampNeg v17)) := hD
    refine lv_iinc (v := ((nI k15) + 1)) (lv' := [(1, .int ((nI k15) + 1)), (0, .ref hm)]) hx hb dX5_passAll_190 hl (k := 0) rfl rfl (by decide) rfl (fun ls hl => ?_)
    refine lv_goto (tgt := 168) hx hb dX5_passAll_193 (by decide) ?_
    have e8 : fX5_passAll_L168s k15 om15 = (ua om17c 8 (nI k15).toNatClampNeg v17) := by
      unfold fX5_passAll_L168s
      rw [ec17]
      try dsimp only
      rfl
    have e7 : fX5_passAll_L168 (fX5_passAll_L74 (us om6c 11 v6) (6)) (k15 + 1) = (ua om17c 8 (nI k15).toNatClampNeg v17) := by
      show fX5_passAll_L168s k15 (fX5_passAll_L168 (fX5_passAll_L74 (us om6c 11 v6) (6)) k15) = _
      rw [hs15]; exact e8
    have hl9 : lv_has ls 2 [(1, .int (nI (k15 + 1))), (0, .ref hm)] := by
      rw [nI_succ]; exact lv_sub hl [0, 1] rfl
    exact ih15 H locs ls ⟨by rw [e7]; exact hP, by rw [e7]; exact hD, hS, hl9⟩
  intro H locs ls hI9
  obtain ⟨hP, hD, hS, hl⟩ := hI9
  refine lv_iload_n hx hb dX5_passAll_168 rfl (lv_at hl 0 rfl) ?_
  refine lv_bipush (v := 10) hx hb dX5_passAll_169 (by decide) ?_
  refine lv_icmp_ge (tgt := 196) hx hb dX5_passAll_171 (by decide) (fun c18 => ?_) (fun c18 => absurd (nI_le (Nat.le_refl _) (by decide)) c18)
  have e9 : fX5_passAll om = (fX5_passAll_L168 (fX5_passAll_L74 (us om6c 11 v6) (6)) (10)) := by
    unfold fX5_passAll
    rw [ec1]
    try dsimp only
    unfold fX5_passAll_c1
    rw [ec2]
    try dsimp only
    unfold fX5_passAll_c1_c2
    rw [ec3]
    try dsimp only
    unfold fX5_passAll_c1_c2_c3
    rw [ec4]
    try dsimp only
    unfold fX5_passAll_c1_c2_c3_c4
    rw [ec5]
    try dsimp only
    unfold fX5_passAll_c1_c2_c3_c4_c5
    rw [ec6]
    try dsimp only
    rfl
  exact W.vret hx hb hr (fun t ht hW => ⟨⟨(fX5_passAll_L168 (fX5_passAll_L74 (us om6c 11 v6) (6)) (10)), rfl, e9.symm, ⟨by rw [ht]; exact hP, hD⟩⟩, hS.F ht⟩) hS.2.2 dX5_passAll_196

set_option maxHeartbeats 4000000 in
set_option maxRecDepth 100000 in
theorem kX5_image (l : Launch) (D : va_G) (cI cZ cC : ClassId) (hm : Nat) (am : Nat → Nat) (om : OV) (p0 : Int32)  {sz : Nat} : Met l yX5_image wsX5_image ({ frames := 2, cells := 0, slots := 0, locals := 43 }) (pW D (tyv cI cZ cC) (wX5 cI cZ hm am om) sz [.ref hm, .int p0]) (va_Qi (fun r (u : OV) => r = (fX5_image om p0).1 ∧ u = (fX5_image om p0).2) (qW D (fun (u : OV) => wX5 cI cZ hm am u) (va_A (wX5 cI cZ hm am om) sz)) (va_A (wX5 cI cZ hm am om) sz)) 0 0 (va_A (wX5 cI cZ hm am om) sz) := by
  refine Met.ofW (cc := cX5_image) (maxL := 2) (ret := (some .int)) (by decide) rfl ?_
  intro p e s m args below meth c s₁ B hml hv
  obtain ⟨rfl, hsz, hP, hK, hN, hD0⟩ := hv
  have hx := B.exec
  have hb := B.bytes
  have hr := B.returns
  have hts := atoms_spec (ws := wsX5_image) B.pre
  have hown : s.vm.findClass RX5 = some m.cls := findClass_of_methodNamed B.named
  have hlocks := B.notSynchronized
  subst hsz
  have hD := hD0.self (sz := s.heap.size)
  generalize hAe : va_A (wX5 cI cZ hm am om) s.heap.size = A at hD ⊢
  have hA : ∀ q : Nat, s.heap.size ≤ q → A q := fun q h => by rw [← hAe]; exact Or.inr h
  have hS : va_S A s.heap s.heap [] := va_S.rf
  have hP : va_P D vwCl (wX5 cI cZ hm am om) s.heap := hP
  have hl := lv_entry ([.ref hm, .int p0]) (n := 2) (Nat.le_of_ble_eq_true rfl)
  rw [lg_entry_eq]
  generalize (lg_sl ([.ref hm, .int p0]) ++ List.replicate (2 - (lg_sl ([.ref hm, .int p0])).length) Slot.unset).toArray = ls at hl ⊢
  have hl : lv_has ls 2 [(0, .ref hm), (1, .int p0)] := hl
  have hSF : CallFix p m c cX5_image 2 s _ wsX5_image RX5 := ⟨hx, hb, hml, hown, hts⟩
  have hi5 : ∀ w ∈ wsX50, w ∈ wsX5_image := by decide +kernel
  have hf209 : (Cond.fieldLink RX5 209 "UmbrellaVoteModel" "keptAt" "I").before _ s = true := hts _ (by decide +kernel)
  have hf205 : (Cond.fieldLink RX5 205 "UmbrellaVoteModel" "isWriting" "Z").before _ s = true := hts _ (by decide +kernel)
  have hf40 : (Cond.fieldLink RX5 40 "UmbrellaVoteModel" "isKept" "[Z").before _ s = true := hts _ (by decide +kernel)
  refine lv_iload_n hx hb dX5_image_0 rfl (lv_at hl 1 rfl) ?_
  refine lv_i2l hx hb dX5_image_1 rfl ?_
  refine lv_lconst (v := 0) hx hb dX5_image_2 (by decide) ?_
  refine lv_lconst (v := 1) hx hb dX5_image_3 (by decide) ?_
  refine rcSi (As := [.long p0.toInt64, .long 0, .long 1]) (rest := []) hSF (kX5_in l D cI cZ cC p0.toInt64 0 1) (va_cwS 3 hts gX5_image_X5_in rfl rfl rfl (by decide +kernel) ⟨Nat.le_of_ble_eq_true rfl, Nat.le_of_ble_eq_true rfl⟩) (hP.sub [] rfl) hK hN rfl rfl hl.1 (Nat.le_of_ble_eq_true rfl) dX5_image_4 ⟨Nat.zero_le _, Nat.zero_le _⟩ ?_
  refine lv_if_ne (tgt := 13) hx hb dX5_image_7 (by decide) (fun c1 => ?_) (fun c1 => ?_)
  · skip
    refine lv_aload_n hx hb dX5_image_13 rfl (lv_at hl 0 rfl) ?_
    refine lv_bipush (v := 80) hx hb dX5_image_14 (by decide) ?_
    refine lv_iload_n hx hb dX5_image_16 rfl (lv_at hl 1 rfl) ?_
    refine lv_imul hx hb dX5_image_17 ?_
    refine va_put (D := D) (ci := 5) (v := .int (80 * p0)) (ty := .int) (C := RX5) (T := TX5) (N := 24) hx hb hts hi5 tyX5 tyX5_ok nmX5 hown hK hP hD hS 0 rfl rfl 22 (by decide) hf209 (fun _ h9 => h9) rfl (by decide +kernel) rfl rfl (Nat.le_of_ble_eq_true rfl) dX5_image_18 (fun H locs hP hD hS => ?_)
    have hP : va_P D vwCl (wX5 cI cZ hm am (us om 22 (80 * p0))) H := hP
    have hD : va_D A (wX5 cI cZ hm am (us om 22 (80 * p0))) := hD
    refine lv_aload_n hx hb dX5_image_21 rfl (lv_at hl 0 rfl) ?_
    refine lv_iconst (v := 1) hx hb dX5_image_22 (by decide) ?_
    refine va_put (D := D) (ci := 5) (v := .int 1) (ty := .boolean) (C := RX5) (T := TX5) (N := 24) hx hb hts hi5 tyX5 tyX5_ok nmX5 hown hK hP hD hS 0 rfl rfl 23 (by decide) hf205 (fun _ h9 => h9) rfl (by decide +kernel) rfl rfl (Nat.le_of_ble_eq_true rfl) dX5_image_23 (fun H locs hP hD hS => ?_)
    rw [sw_m_m_s23] at hP hD
    have hP : va_P D vwCl (wX5 cI cZ hm am (us (us om 22 (80 * p0)) 23 1)) H := hP
    have hD : va_D A (wX5 cI cZ hm am (us (us om 22 (80 * p0)) 23 1)) := hD
    refine lv_aload_n hx hb dX5_image_26 rfl (lv_at hl 0 rfl) ?_
    refine wcVv (b := hm) (As := []) (rest := []) (wr := []) (ws' := wX5 cI cZ hm am (fX5_passAll (us (us om 22 (80 * p0)) 23 1))) hSF (kX5_passAll l D cI cZ cC hm am (us (us om 22 (80 * p0)) 23 1) (im_b (by with_reducible assumption))) (cwV 0 hts gX5_image_X5_passAll rfl rfl rfl (by decide +kernel) ⟨Nat.le_of_ble_eq_true rfl, Nat.le_of_ble_eq_true rfl⟩) (va_recv hK hP (ci := 5) (q0 := 0) rfl rfl) hP hD hS hA hK hN [0, 1, 2, 3, 4, 5, 6, 7, 8, 9, 10, 11] [] [0, 1, 2, 3, 4, 5, 6, 7, 8, 9, 10, 11] rfl (by decide) rfl (by decide) (by decide) rfl (by decide) rfl rfl hl.1 (Nat.le_of_ble_eq_true rfl) dX5_image_27 ⟨Nat.zero_le _, Nat.zero_le _⟩ (fun H locs hP hD hS => ?_)
    refine lv_aload_n hx hb dX5_image_30 rfl (lv_at hl 0 rfl) ?_
    refine va_get (D := D) (ci := 5) (v := .ref (am 21)) (C := RX5) (T := TX5) (N := 24) hx hb hts hi5 hown hK hP 0 rfl rfl 21 (by decide) hf40 (fun _ h9 => h9) rfl dX5_image_31 ?_
    refine lv_iload_n hx hb dX5_image_34 rfl (lv_at hl 1 rfl) ?_
    refine lv_iconst (v := 1) hx hb dX5_image_35 (by decide) ?_
    refine va_zast hx hb hK hP hD hS 11 1 rfl rfl (in2 (by with_reducible assumption)) dX5_image_36 (fun H locs hP hD hS => ?_)
    rw [sw_m_m_a21] at hP hD
    have hP : va_P D vwCl (wX5 cI cZ hm am (ua (fX5_passAll (us (us om 22 (80 * p0)) 23 1)) 21 p0.toNatClampNeg (vp_nar .boolean 1))) H := hP
    have hD : va_D A (wX5 cI cZ hm am (ua (fX5_passAll (us (us om 22 (80 * p0)) 23 1)) 21 p0.toNatClampNeg (vp_nar .boolean 1))) := hD
    refine lv_iconst (v := 1) hx hb dX5_image_37 (by decide) ?_
    have e9 : fX5_image om p0 = ((1 : Int32), (ua (fX5_passAll (us (us om 22 (80 * p0)) 23 1)) 21 p0.toNatClampNeg (vp_nar .boolean 1))) := by
      simp only [fX5_image, if_neg c1]
    exact W.iret hx hb hr (fun t ht hW => ⟨⟨_, (ua (fX5_passAll (us (us om 22 (80 * p0)) 23 1)) 21 p0.toNatClampNeg (vp_nar .boolean 1)), rfl, ⟨by rw [e9], by rw [e9]⟩, ⟨by rw [ht]; exact hP, hD⟩⟩, hS.F ht⟩) hS.2.2 dX5_image_38
  · skip
    refine lv_bipush (v := (-2)) hx hb dX5_image_10 (by decide) ?_
    have e9 : fX5_image om p0 = (((-2) : Int32), om) := by
      simp only [fX5_image, if_pos c1]
    exact W.iret hx hb hr (fun t ht hW => ⟨⟨_, om, rfl, ⟨by rw [e9], by rw [e9]⟩, ⟨by rw [ht]; exact hP, hD⟩⟩, hS.F ht⟩) hS.2.2 dX5_image_12

set_option maxHeartbeats 4000000 in
set_option maxRecDepth 100000 in
theorem kX5_restore (l : Launch) (D : va_G) (cI cZ cC : ClassId) (hm : Nat) (am : Nat → Nat) (om : OV) (p0 : Int32)  {sz : Nat} : Met l yX5_restore wsX5_restore ({ frames := 2, cells := 0, slots := 0, locals := 43 }) (pW D (tyv cI cZ cC) (wX5 cI cZ hm am om) sz [.ref hm, .int p0]) (va_Qi (fun r (u : OV) => r = (fX5_restore om p0).1 ∧ u = (fX5_restore om p0).2) (qW D (fun (u : OV) => wX5 cI cZ hm am u) (va_A (wX5 cI cZ hm am om) sz)) (va_A (wX5 cI cZ hm am om) sz)) 0 0 (va_A (wX5 cI cZ hm am om) sz) := by
  refine Met.ofW (cc := cX5_restore) (maxL := 2) (ret := (some .int)) (by decide) rfl ?_
  intro p e s m args below meth c s₁ B hml hv
  obtain ⟨rfl, hsz, hP, hK, hN, hD0⟩ := hv
  have hx := B.exec
  have hb := B.bytes
  have hr := B.returns
  have hts := atoms_spec (ws := wsX5_restore) B.pre
  have hown : s.vm.findClass RX5 = some m.cls := findClass_of_methodNamed B.named
  have hlocks := B.notSynchronized
  subst hsz
  have hD := hD0.self (sz := s.heap.size)
  generalize hAe : va_A (wX5 cI cZ hm am om) s.heap.size = A at hD ⊢
  have hA : ∀ q : Nat, s.heap.size ≤ q → A q := fun q h => by rw [← hAe]; exact Or.inr h
  have hS : va_S A s.heap s.heap [] := va_S.rf
  have hP : va_P D vwCl (wX5 cI cZ hm am om) s.heap := hP
  have hl := lv_entry ([.ref hm, .int p0]) (n := 2) (Nat.le_of_ble_eq_true rfl)
  rw [lg_entry_eq]
  generalize (lg_sl ([.ref hm, .int p0]) ++ List.replicate (2 - (lg_sl ([.ref hm, .int p0])).length) Slot.unset).toArray = ls at hl ⊢
  have hl : lv_has ls 2 [(0, .ref hm), (1, .int p0)] := hl
  have hSF : CallFix p m c cX5_restore 2 s _ wsX5_restore RX5 := ⟨hx, hb, hml, hown, hts⟩
  have hi5 : ∀ w ∈ wsX50, w ∈ wsX5_restore := by decide +kernel
  have hf40 : (Cond.fieldLink RX5 40 "UmbrellaVoteModel" "isKept" "[Z").before _ s = true := hts _ (by decide +kernel)
  have hf209 : (Cond.fieldLink RX5 209 "UmbrellaVoteModel" "keptAt" "I").before _ s = true := hts _ (by decide +kernel)
  have hf205 : (Cond.fieldLink RX5 205 "UmbrellaVoteModel" "isWriting" "Z").before _ s = true := hts _ (by decide +kernel)
  refine lv_iload_n hx hb dX5_restore_0 rfl (lv_at hl 1 rfl) ?_
  refine lv_i2l hx hb dX5_restore_1 rfl ?_
  refine lv_lconst (v := 0) hx hb dX5_restore_2 (by decide) ?_
  refine lv_lconst (v := 1) hx hb dX5_restore_3 (by decide) ?_
  refine rcSi (As := [.long p0.toInt64, .long 0, .long 1]) (rest := []) hSF (kX5_in l D cI cZ cC p0.toInt64 0 1) (va_cwS 3 hts gX5_restore_X5_in rfl rfl rfl (by decide +kernel) ⟨Nat.le_of_ble_eq_true rfl, Nat.le_of_ble_eq_true rfl⟩) (hP.sub [] rfl) hK hN rfl rfl hl.1 (Nat.le_of_ble_eq_true rfl) dX5_restore_4 ⟨Nat.zero_le _, Nat.zero_le _⟩ ?_
  refine lv_if_ne (tgt := 13) hx hb dX5_restore_7 (by decide) (fun c1 => ?_) (fun c1 => ?_)
  · skip
    refine lv_aload_n hx hb dX5_restore_13 rfl (lv_at hl 0 rfl) ?_
    refine va_get (D := D) (ci := 5) (v := .ref (am 21)) (C := RX5) (T := TX5) (N := 24) hx hb hts hi5 hown hK hP 0 rfl rfl 21 (by decide) hf40 (fun _ h9 => h9) rfl dX5_restore_14 ?_
    refine lv_iload_n hx hb dX5_restore_17 rfl (lv_at hl 1 rfl) ?_
    refine va_zald (f := (om.2 21)) hx hb hK hP 11 1 rfl rfl (in2 (by with_reducible assumption)) dX5_restore_18 ?_
    refine lv_if_ne (tgt := 25) hx hb dX5_restore_19 (by decide) (fun c2 => ?_) (fun c2 => ?_)
    · skip
      refine lv_aload_n hx hb dX5_restore_25 rfl (lv_at hl 0 rfl) ?_
      refine lv_bipush (v := 80) hx hb dX5_restore_26 (by decide) ?_
      refine lv_iload_n hx hb dX5_restore_28 rfl (lv_at hl 1 rfl) ?_
      refine lv_imul hx hb dX5_restore_29 ?_
      refine va_put (D := D) (ci := 5) (v := .int (80 * p0)) (ty := .int) (C := RX5) (T := TX5) (N := 24) hx hb hts hi5 tyX5 tyX5_ok nmX5 hown hK hP hD hS 0 rfl rfl 22 (by decide) hf209 (fun _ h9 => h9) rfl (by decide +kernel) rfl rfl (Nat.le_of_ble_eq_true rfl) dX5_restore_30 (fun H locs hP hD hS => ?_)
      have hP : va_P D vwCl (wX5 cI cZ hm am (us om 22 (80 * p0))) H := hP
      have hD : va_D A (wX5 cI cZ hm am (us om 22 (80 * p0))) := hD
      refine lv_aload_n hx hb dX5_restore_33 rfl (lv_at hl 0 rfl) ?_
      refine lv_iconst (v := 0) hx hb dX5_restore_34 (by decide) ?_
      refine va_put (D := D) (ci := 5) (v := .int 0) (ty := .boolean) (C := RX5) (T := TX5) (N := 24) hx hb hts hi5 tyX5 tyX5_ok nmX5 hown hK hP hD hS 0 rfl rfl 23 (by decide) hf205 (fun _ h9 => h9) rfl (by decide +kernel) rfl rfl (Nat.le_of_ble_eq_true rfl) dX5_restore_35 (fun H locs hP hD hS => ?_)
      rw [sw_m_m_s23] at hP hD
      have hP : va_P D vwCl (wX5 cI cZ hm am (us (us om 22 (80 * p0)) 23 0)) H := hP
      have hD : va_D A (wX5 cI cZ hm am (us (us om 22 (80 * p0)) 23 0)) := hD
      refine lv_aload_n hx hb dX5_restore_38 rfl (lv_at hl 0 rfl) ?_
      refine wcVv (b := hm) (As := []) (rest := []) (wr := []) (ws' := wX5 cI cZ hm am (fX5_passAll (us (us om 22 (80 * p0)) 23 0))) hSF (kX5_passAll l D cI cZ cC hm am (us (us om 22 (80 * p0)) 23 0) (im_b (by with_reducible assumption))) (cwV 0 hts gX5_restore_X5_passAll rfl rfl rfl (by decide +kernel) ⟨Nat.le_of_ble_eq_true rfl, Nat.le_of_ble_eq_true rfl⟩) (va_recv hK hP (ci := 5) (q0 := 0) rfl rfl) hP hD hS hA hK hN [0, 1, 2, 3, 4, 5, 6, 7, 8, 9, 10, 11] [] [0, 1, 2, 3, 4, 5, 6, 7, 8, 9, 10, 11] rfl (by decide) rfl (by decide) (by decide) rfl (by decide) rfl rfl hl.1 (Nat.le_of_ble_eq_true rfl) dX5_restore_39 ⟨Nat.zero_le _, Nat.zero_le _⟩ (fun H locs hP hD hS => ?_)
      refine lv_iconst (v := 1) hx hb dX5_restore_42 (by decide) ?_
      have e9 : fX5_restore om p0 = ((1 : Int32), (fX5_passAll (us (us om 22 (80 * p0)) 23 0))) := by
        simp only [fX5_restore, if_neg c1, if_neg c2]
      exact W.iret hx hb hr (fun t ht hW => ⟨⟨_, (fX5_passAll (us (us om 22 (80 * p0)) 23 0)), rfl, ⟨by rw [e9], by rw [e9]⟩, ⟨by rw [ht]; exact hP, hD⟩⟩, hS.F ht⟩) hS.2.2 dX5_restore_43
    · skip
      refine lv_bipush (v := (-3)) hx hb dX5_restore_22 (by decide) ?_
      have e9 : fX5_restore om p0 = (((-3) : Int32), om) := by
        simp only [fX5_restore, if_neg c1, if_pos c2]
      exact W.iret hx hb hr (fun t ht hW => ⟨⟨_, om, rfl, ⟨by rw [e9], by rw [e9]⟩, ⟨by rw [ht]; exact hP, hD⟩⟩, hS.F ht⟩) hS.2.2 dX5_restore_24
  · skip
    refine lv_bipush (v := (-2)) hx hb dX5_restore_10 (by decide) ?_
    have e9 : fX5_restore om p0 = (((-2) : Int32), om) := by
      simp only [fX5_restore, if_pos c1]
    exact W.iret hx hb hr (fun t ht hW => ⟨⟨_, om, rfl, ⟨by rw [e9], by rw [e9]⟩, ⟨by rw [ht]; exact hP, hD⟩⟩, hS.F ht⟩) hS.2.2 dX5_restore_12

