set_option maxHeartbeats 4000000 in
set_option maxRecDepth 100000 in
theorem kX5_stand (l : Launch) (D : va_G) (cI cZ cC : ClassId) (hm : Nat) (am : Nat → Nat) (om : OV) (p0 : Int32) (p1 : Int32) (p2 : Int32) (p3 : Int32) (p4 : Int32) (h6 : ∃ b : Nat, b < 64 ∧ om.1 0 = nI b) {sz : Nat} : Met l yX5_stand wsX5_stand ({ frames := 2, cells := 0, slots := 0, locals := 45 }) (pW D (tyv cI cZ cC) (wX5 cI cZ hm am om) sz [.ref hm, .int p0, .int p1, .int p2, .int p3, .int p4]) (va_Qi (fun r (u : OV) => r = (fX5_stand om p0 p1 p2 p3 p4).1 ∧ u = (fX5_stand om p0 p1 p2 p3 p4).2) (qW D (fun (u : OV) => wX5 cI cZ hm am u) (va_A (wX5 cI cZ hm am om) sz)) (va_A (wX5 cI cZ hm am om) sz)) 0 0 (va_A (wX5 cI cZ hm am om) sz) := by
  refine Met.ofW (cc := cX5_stand) (maxL := 6) (ret := (some .int)) (by decide) rfl ?_
  intro p e s m args below meth c s₁ B hml hv
  obtain ⟨rfl, hsz, hP, hK, hN, hD0⟩ := hv
  have hx := B.exec
  have hb := B.bytes
  have hr := B.returns
  have hts := atoms_spec (ws := wsX5_stand) B.pre
  have hown : s.vm.findClass RX5 = some m.cls := findClass_of_methodNamed B.named
  have hlocks := B.notSynchronized
  subst hsz
  have hD := hD0.self (sz := s.heap.size)
  generalize hAe : va_A (wX5 cI cZ hm am om) s.heap.size = A at hD ⊢
  have hA : ∀ q : Nat, s.heap.size ≤ q → A q := fun q h => by rw [← hAe]; exact Or.inr h
  have hS : va_S A s.heap s.heap [] := va_S.rf
  have hP : va_P D vwCl (wX5 cI cZ hm am om) s.heap := hP
  have hl := lv_entry ([.ref hm, .int p0, .int p1, .int p2, .int p3, .int p4]) (n := 6) (Nat.le_of_ble_eq_true rfl)
  rw [lg_entry_eq]
  generalize (lg_sl ([.ref hm, .int p0, .int p1, .int p2, .int p3, .int p4]) ++ List.replicate (6 - (lg_sl ([.ref hm, .int p0, .int p1, .int p2, .int p3, .int p4])).length) Slot.unset).toArray = ls at hl ⊢
  have hl : lv_has ls 6 [(0, .ref hm), (1, .int p0), (2, .int p1), (3, .int p2), (4, .int p3), (5, .int p4)] := hl
  have hSF : CallFix p m c cX5_stand 6 s _ wsX5_stand RX5 := ⟨hx, hb, hml, hown, hts⟩
  have hi5 : ∀ w ∈ wsX50, w ∈ wsX5_stand := by decide +kernel
  have hf7 : (Cond.fieldLink RX5 7 "UmbrellaVoteModel" "placeOf" "[I").before _ s = true := hts _ (by decide +kernel)
  have hf13 : (Cond.fieldLink RX5 13 "UmbrellaVoteModel" "slowOf" "[I").before _ s = true := hts _ (by decide +kernel)
  have hf16 : (Cond.fieldLink RX5 16 "UmbrellaVoteModel" "partyOf" "[I").before _ s = true := hts _ (by decide +kernel)
  have hf69 : (Cond.fieldLink RX5 69 "UmbrellaVoteModel" "holes" "I").before _ s = true := hts _ (by decide +kernel)
  have hf63 : (Cond.fieldLink RX5 63 "UmbrellaVoteModel" "there" "I").before _ s = true := hts _ (by decide +kernel)
  refine lv_iload_n hx hb dX5_stand_0 rfl (lv_at hl 1 rfl) ?_
  refine rcSi (As := [.int p0]) (rest := []) hSF (kX5_isPerson l D cI cZ cC p0) (va_cwS 1 hts gX5_stand_X5_isPerson rfl rfl rfl (by decide +kernel) ⟨Nat.le_of_ble_eq_true rfl, Nat.le_of_ble_eq_true rfl⟩) (hP.sub [] rfl) hK hN rfl rfl hl.1 (Nat.le_of_ble_eq_true rfl) dX5_stand_1 ⟨Nat.zero_le _, Nat.zero_le _⟩ ?_
  refine lv_if_eq (tgt := 14) hx hb dX5_stand_4 (by decide) (fun c1 => ?_) (fun c1 => ?_)
  · skip
    refine lv_iconst (v := (-1)) hx hb dX5_stand_14 (by decide) ?_
    have e9 : fX5_stand om p0 p1 p2 p3 p4 = (((-1) : Int32), om) := by
      simp only [fX5_stand, if_pos c1]
    exact W.iret hx hb hr (fun t ht hW => ⟨⟨_, om, rfl, ⟨by rw [e9], by rw [e9]⟩, ⟨by rw [ht]; exact hP, hD⟩⟩, hS.F ht⟩) hS.2.2 dX5_stand_15
  · skip
    refine lv_iload_n hx hb dX5_stand_7 rfl (lv_at hl 2 rfl) ?_
    refine rcSi (As := [.int p1]) (rest := []) hSF (kX5_isPlace l D cI cZ cC p1) (va_cwS 1 hts gX5_stand_X5_isPlace rfl rfl rfl (by decide +kernel) ⟨Nat.le_of_ble_eq_true rfl, Nat.le_of_ble_eq_true rfl⟩) (hP.sub [] rfl) hK hN rfl rfl hl.1 (Nat.le_of_ble_eq_true rfl) dX5_stand_8 ⟨Nat.zero_le _, Nat.zero_le _⟩ ?_
    refine lv_if_ne (tgt := 16) hx hb dX5_stand_11 (by decide) (fun c2 => ?_) (fun c2 => ?_)
    · skip
      refine lv_iload_n hx hb dX5_stand_16 rfl (lv_at hl 3 rfl) ?_
      refine lv_i2l hx hb dX5_stand_17 rfl ?_
      refine lv_lconst (v := 0) hx hb dX5_stand_18 (by decide) ?_
      refine lv_ldc2 (v := 9) hx hb hown (hts (.constantLong RX5 57 9) (by decide +kernel)) dX5_stand_19 ?_
      refine rcSi (As := [.long p2.toInt64, .long 0, .long 9]) (rest := []) hSF (kX5_in l D cI cZ cC p2.toInt64 0 9) (va_cwS 3 hts gX5_stand_X5_in rfl rfl rfl (by decide +kernel) ⟨Nat.le_of_ble_eq_true rfl, Nat.le_of_ble_eq_true rfl⟩) (hP.sub [] rfl) hK hN rfl rfl hl.1 (Nat.le_of_ble_eq_true rfl) dX5_stand_22 ⟨Nat.zero_le _, Nat.zero_le _⟩ ?_
      refine lv_if_eq (tgt := 39) hx hb dX5_stand_25 (by decide) (fun c3 => ?_) (fun c3 => ?_)
      · skip
        refine lv_bipush (v := (-2)) hx hb dX5_stand_39 (by decide) ?_
        have e9 : fX5_stand om p0 p1 p2 p3 p4 = (((-2) : Int32), om) := by
          simp only [fX5_stand, if_neg c1, if_neg c2, if_pos c3]
        exact W.iret hx hb hr (fun t ht hW => ⟨⟨_, om, rfl, ⟨by rw [e9], by rw [e9]⟩, ⟨by rw [ht]; exact hP, hD⟩⟩, hS.F ht⟩) hS.2.2 dX5_stand_41
      · skip
        refine lv_iload hx hb dX5_stand_28 (lv_at hl 4 rfl) ?_
        refine lv_i2l hx hb dX5_stand_30 rfl ?_
        refine lv_lconst (v := 0) hx hb dX5_stand_31 (by decide) ?_
        refine lv_lconst (v := 1) hx hb dX5_stand_32 (by decide) ?_
        refine rcSi (As := [.long p3.toInt64, .long 0, .long 1]) (rest := []) hSF (kX5_in l D cI cZ cC p3.toInt64 0 1) (va_cwS 3 hts gX5_stand_X5_in rfl rfl rfl (by decide +kernel) ⟨Nat.le_of_ble_eq_true rfl, Nat.le_of_ble_eq_true rfl⟩) (hP.sub [] rfl) hK hN rfl rfl hl.1 (Nat.le_of_ble_eq_true rfl) dX5_stand_33 ⟨Nat.zero_le _, Nat.zero_le _⟩ ?_
        refine lv_if_ne (tgt := 42) hx hb dX5_stand_36 (by decide) (fun c4 => ?_) (fun c4 => ?_)
        · skip
          refine lv_aload_n hx hb dX5_stand_42 rfl (lv_at hl 0 rfl) ?_
          refine va_get (D := D) (ci := 5) (v := .ref (am 1)) (C := RX5) (T := TX5) (N := 24) hx hb hts hi5 hown hK hP 0 rfl rfl 1 (by decide) hf7 (fun _ h9 => h9) rfl dX5_stand_43 ?_
          refine lv_iload_n hx hb dX5_stand_46 rfl (lv_at hl 1 rfl) ?_
          refine lv_iload_n hx hb dX5_stand_47 rfl (lv_at hl 2 rfl) ?_
          refine va_iast hx hb hK hP hD hS 1 0 rfl rfl (ip5 (by with_reducible assumption)) dX5_stand_48 (fun H locs hP hD hS => ?_)
          have hP : va_P D vwCl (wX5 cI cZ hm am (ua om 1 p0.toNatClampNeg p1)) H := hP
          have hD : va_D A (wX5 cI cZ hm am (ua om 1 p0.toNatClampNeg p1)) := hD
          refine lv_aload_n hx hb dX5_stand_49 rfl (lv_at hl 0 rfl) ?_
          refine va_get (D := D) (ci := 5) (v := .ref (am 2)) (C := RX5) (T := TX5) (N := 24) hx hb hts hi5 hown hK hP 0 rfl rfl 2 (by decide) hf13 (fun _ h9 => h9) rfl dX5_stand_50 ?_
          refine lv_iload_n hx hb dX5_stand_53 rfl (lv_at hl 1 rfl) ?_
          refine lv_iload_n hx hb dX5_stand_54 rfl (lv_at hl 3 rfl) ?_
          refine va_iast hx hb hK hP hD hS 2 0 rfl rfl (ip5 (by with_reducible assumption)) dX5_stand_55 (fun H locs hP hD hS => ?_)
          rw [sw_m_m_a2] at hP hD
          have hP : va_P D vwCl (wX5 cI cZ hm am (ua (ua om 1 p0.toNatClampNeg p1) 2 p0.toNatClampNeg p2)) H := hP
          have hD : va_D A (wX5 cI cZ hm am (ua (ua om 1 p0.toNatClampNeg p1) 2 p0.toNatClampNeg p2)) := hD
          refine lv_aload_n hx hb dX5_stand_56 rfl (lv_at hl 0 rfl) ?_
          refine va_get (D := D) (ci := 5) (v := .ref (am 3)) (C := RX5) (T := TX5) (N := 24) hx hb hts hi5 hown hK hP 0 rfl rfl 3 (by decide) hf16 (fun _ h9 => h9) rfl dX5_stand_57 ?_
          refine lv_iload_n hx hb dX5_stand_60 rfl (lv_at hl 1 rfl) ?_
          refine lv_iload hx hb dX5_stand_61 (lv_at hl 4 rfl) ?_
          refine va_iast hx hb hK hP hD hS 3 0 rfl rfl (ip5 (by with_reducible assumption)) dX5_stand_63 (fun H locs hP hD hS => ?_)
          rw [sw_m_m_a3] at hP hD
          have hP : va_P D vwCl (wX5 cI cZ hm am (ua (ua (ua om 1 p0.toNatClampNeg p1) 2 p0.toNatClampNeg p2) 3 p0.toNatClampNeg p3)) H := hP
          have hD : va_D A (wX5 cI cZ hm am (ua (ua (ua om 1 p0.toNatClampNeg p1) 2 p0.toNatClampNeg p2) 3 p0.toNatClampNeg p3)) := hD
          refine lv_aload_n hx hb dX5_stand_64 rfl (lv_at hl 0 rfl) ?_
          refine lv_iload hx hb dX5_stand_65 (lv_at hl 5 rfl) ?_
          refine W_itei (P := p4 = 0) (a := ((om.1 4) &&& ((1 <<< (p0 &&& 31)) ^^^ (-1)))) (b := ((om.1 4) ||| (1 <<< (p0 &&& 31)))) (J := 91) (ls9 := ls) (rest9 := [.ref hm]) (fun ht6 hf6 => ?_) ?_
          · refine lv_if_eq (tgt := 81) hx hb dX5_stand_67 (by decide) (fun c5 => ?_) (fun c5 => ?_)
            · skip
              refine lv_aload_n hx hb dX5_stand_81 rfl (lv_at hl 0 rfl) ?_
              refine va_get (D := D) (ci := 5) (v := .int (om.1 4)) (C := RX5) (T := TX5) (N := 24) hx hb hts hi5 hown hK hP 0 rfl rfl 4 (by decide) hf69 (fun _ h9 => h9) rfl dX5_stand_82 ?_
              refine lv_iconst (v := 1) hx hb dX5_stand_85 (by decide) ?_
              refine lv_iload_n hx hb dX5_stand_86 rfl (lv_at hl 1 rfl) ?_
              refine lv_ishl hx hb dX5_stand_87 ?_
              refine lv_iconst (v := (-1)) hx hb dX5_stand_88 (by decide) ?_
              refine lv_ixor hx hb dX5_stand_89 ?_
              refine lv_iand hx hb dX5_stand_90 ?_
              exact ht6 c5
            · skip
              refine lv_aload_n hx hb dX5_stand_70 rfl (lv_at hl 0 rfl) ?_
              refine va_get (D := D) (ci := 5) (v := .int (om.1 4)) (C := RX5) (T := TX5) (N := 24) hx hb hts hi5 hown hK hP 0 rfl rfl 4 (by decide) hf69 (fun _ h9 => h9) rfl dX5_stand_71 ?_
              refine lv_iconst (v := 1) hx hb dX5_stand_74 (by decide) ?_
              refine lv_iload_n hx hb dX5_stand_75 rfl (lv_at hl 1 rfl) ?_
              refine lv_ishl hx hb dX5_stand_76 ?_
              refine lv_ior hx hb dX5_stand_77 ?_
              refine lv_goto (tgt := 91) hx hb dX5_stand_78 (by decide) ?_
              exact hf6 c5
          refine va_put (D := D) (ci := 5) (v := .int (if p4 = 0 then ((om.1 4) &&& ((1 <<< (p0 &&& 31)) ^^^ (-1))) else ((om.1 4) ||| (1 <<< (p0 &&& 31))))) (ty := .int) (C := RX5) (T := TX5) (N := 24) hx hb hts hi5 tyX5 tyX5_ok nmX5 hown hK hP hD hS 0 rfl rfl 4 (by decide) hf69 (fun _ h9 => h9) rfl (by decide +kernel) rfl rfl (Nat.le_of_ble_eq_true rfl) dX5_stand_91 (fun H locs hP hD hS => ?_)
          rw [sw_m_m_s4] at hP hD
          have hP : va_P D vwCl (wX5 cI cZ hm am (us (ua (ua (ua om 1 p0.toNatClampNeg p1) 2 p0.toNatClampNeg p2) 3 p0.toNatClampNeg p3) 4 (if p4 = 0 then ((om.1 4) &&& ((1 <<< (p0 &&& 31)) ^^^ (-1))) else ((om.1 4) ||| (1 <<< (p0 &&& 31)))))) H := hP
          have hD : va_D A (wX5 cI cZ hm am (us (ua (ua (ua om 1 p0.toNatClampNeg p1) 2 p0.toNatClampNeg p2) 3 p0.toNatClampNeg p3) 4 (if p4 = 0 then ((om.1 4) &&& ((1 <<< (p0 &&& 31)) ^^^ (-1))) else ((om.1 4) ||| (1 <<< (p0 &&& 31)))))) := hD
          refine lv_aload_n hx hb dX5_stand_94 rfl (lv_at hl 0 rfl) ?_
          refine lv_dup hx hb dX5_stand_95 rfl ?_
          refine va_get (D := D) (ci := 5) (v := .int (om.1 0)) (C := RX5) (T := TX5) (N := 24) hx hb hts hi5 hown hK hP 0 rfl rfl 0 (by decide) hf63 (fun _ h9 => h9) rfl dX5_stand_96 ?_
          refine lv_iconst (v := 1) hx hb dX5_stand_99 (by decide) ?_
          refine lv_iload_n hx hb dX5_stand_100 rfl (lv_at hl 1 rfl) ?_
          refine lv_ishl hx hb dX5_stand_101 ?_
          refine lv_ior hx hb dX5_stand_102 ?_
          refine va_put (D := D) (ci := 5) (v := .int ((om.1 0) ||| (1 <<< (p0 &&& 31)))) (ty := .int) (C := RX5) (T := TX5) (N := 24) hx hb hts hi5 tyX5 tyX5_ok nmX5 hown hK hP hD hS 0 rfl rfl 0 (by decide) hf63 (fun _ h9 => h9) rfl (by decide +kernel) rfl rfl (Nat.le_of_ble_eq_true rfl) dX5_stand_103 (fun H locs hP hD hS => ?_)
          rw [sw_m_m_s0] at hP hD
          have hP : va_P D vwCl (wX5 cI cZ hm am (us (us (ua (ua (ua om 1 p0.toNatClampNeg p1) 2 p0.toNatClampNeg p2) 3 p0.toNatClampNeg p3) 4 (if p4 = 0 then ((om.1 4) &&& ((1 <<< (p0 &&& 31)) ^^^ (-1))) else ((om.1 4) ||| (1 <<< (p0 &&& 31))))) 0 ((om.1 0) ||| (1 <<< (p0 &&& 31))))) H := hP
          have hD : va_D A (wX5 cI cZ hm am (us (us (ua (ua (ua om 1 p0.toNatClampNeg p1) 2 p0.toNatClampNeg p2) 3 p0.toNatClampNeg p3) 4 (if p4 = 0 then ((om.1 4) &&& ((1 <<< (p0 &&& 31)) ^^^ (-1))) else ((om.1 4) ||| (1 <<< (p0 &&& 31))))) 0 ((om.1 0) ||| (1 <<< (p0 &&& 31))))) := hD
          refine lv_aload_n hx hb dX5_stand_106 rfl (lv_at hl 0 rfl) ?_
          refine va_get (D := D) (ci := 5) (v := .int ((om.1 0) ||| (1 <<< (p0 &&& 31)))) (C := RX5) (T := TX5) (N := 24) hx hb hts hi5 hown hK hP 0 rfl rfl 0 (by decide) hf63 (fun _ h9 => h9) rfl dX5_stand_107 ?_
          refine rcSi (As := [.int ((om.1 0) ||| (1 <<< (p0 &&& 31)))]) (rest := []) hSF (kX5_ones l D cI cZ cC ((om.1 0) ||| (1 <<< (p0 &&& 31))) (st_64 h6 (by with_reducible assumption))) (va_cwS 1 hts gX5_stand_X5_ones rfl rfl rfl (by decide +kernel) ⟨Nat.le_of_ble_eq_true rfl, Nat.le_of_ble_eq_true rfl⟩) (hP.sub [] rfl) hK hN rfl rfl hl.1 (Nat.le_of_ble_eq_true rfl) dX5_stand_110 ⟨Nat.zero_le _, Nat.zero_le _⟩ ?_
          have e9 : fX5_stand om p0 p1 p2 p3 p4 = ((fX5_ones ((om.1 0) ||| (1 <<< (p0 &&& 31)))), (us (us (ua (ua (ua om 1 p0.toNatClampNeg p1) 2 p0.toNatClampNeg p2) 3 p0.toNatClampNeg p3) 4 (if p4 = 0 then ((om.1 4) &&& ((1 <<< (p0 &&& 31)) ^^^ (-1))) else ((om.1 4) ||| (1 <<< (p0 &&& 31))))) 0 ((om.1 0) ||| (1 <<< (p0 &&& 31))))) := by
            simp only [fX5_stand, if_neg c1, if_neg c2, if_neg c3, if_neg c4]
          exact W.iret hx hb hr (fun t ht hW => ⟨⟨_, (us (us (ua (ua (ua om 1 p0.toNatClampNeg p1) 2 p0.toNatClampNeg p2) 3 p0.toNatClampNeg p3) 4 (if p4 = 0 then ((om.1 4) &&& ((1 <<< (p0 &&& 31)) ^^^ (-1))) else ((om.1 4) ||| (1 <<< (p0 &&& 31))))) 0 ((om.1 0) ||| (1 <<< (p0 &&& 31)))), rfl, ⟨by rw [e9], by rw [e9]⟩, ⟨by rw [ht]; exact hP, hD⟩⟩, hS.F ht⟩) hS.2.2 dX5_stand_113
        · skip
          refine lv_bipush (v := (-2)) hx hb dX5_stand_39 (by decide) ?_
          have e9 : fX5_stand om p0 p1 p2 p3 p4 = (((-2) : Int32), om) := by
            simp only [fX5_stand, if_neg c1, if_neg c2, if_neg c3, if_pos c4]
          exact W.iret hx hb hr (fun t ht hW => ⟨⟨_, om, rfl, ⟨by rw [e9], by rw [e9]⟩, ⟨by rw [ht]; exact hP, hD⟩⟩, hS.F ht⟩) hS.2.2 dX5_stand_41
    · skip
      refine lv_iconst (v := (-1)) hx hb dX5_stand_14 (by decide) ?_
      have e9 : fX5_stand om p0 p1 p2 p3 p4 = (((-1) : Int32), om) := by
        simp only [fX5_stand, if_neg c1, if_pos c2]
      exact W.iret hx hb hr (fun t ht hW => ⟨⟨_, om, rfl, ⟨by rw [e9], by rw [e9]⟩, ⟨by rw [ht]; exact hP, hD⟩⟩, hS.F ht⟩) hS.2.2 dX5_stand_15

set_option maxHeartbeats 4000000 in
set_option maxRecDepth 100000 in
theorem kX5_leave (l : Launch) (D : va_G) (cI cZ cC : ClassId) (hm : Nat) (am : Nat → Nat) (om : OV) (p0 : Int32) (h6 : ∃ b : Nat, b < 64 ∧ om.1 0 = nI b) {sz : Nat} : Met l yX5_leave wsX5_leave ({ frames := 3, cells := 0, slots := 0, locals := 66 }) (pW D (tyv cI cZ cC) (wX5 cI cZ hm am om) sz [.ref hm, .int p0]) (va_Qi (fun r (u : OV) => r = (fX5_leave om p0).1 ∧ u = (fX5_leave om p0).2) (qW D (fun (u : OV) => wX5 cI cZ hm am u) (va_A (wX5 cI cZ hm am om) sz)) (va_A (wX5 cI cZ hm am om) sz)) 0 0 (va_A (wX5 cI cZ hm am om) sz) := by
  refine Met.ofW (cc := cX5_leave) (maxL := 2) (ret := (some .int)) (by decide) rfl ?_
  intro p e s m args below meth c s₁ B hml hv
  obtain ⟨rfl, hsz, hP, hK, hN, hD0⟩ := hv
  have hx := B.exec
  have hb := B.bytes
  have hr := B.returns
  have hts := atoms_spec (ws := wsX5_leave) B.pre
  have hown : s.vm.findClass RX5 = some m.cls := findClass_of_methodNamed B.named
  have hlocks := B.notSynchronized
  subst hsz
  have hD := hD0.self (sz := s.heap.size)
  generalize hAe : va_A (wX5 cI cZ hm am om) s.heap.size = A at hD ⊢
  have hA : ∀ q : Nat, s.heap.size ≤ q → A q := fun q h => by rw [← hAe]; exact Or.inr h
  have hS : va_S A s.heap s.heap [] := va_S.rf
  have hP : va_P D vwCl (wX5 cI cZ hm am om) s.heap := hP
  have hl := lv_entry ([.ref hm, .int p0]) (n := 2) (Nat.le_of_ble_eq_true rfl)
  rw [lg_entry_eq]
  generalize (lg_sl ([.ref hm, .int p0]) ++ List.replicate (2 - (lg_sl ([.ref hm, .int p0])).length) Slot.unset).toArray = ls at hl ⊢
  have hl : lv_has ls 2 [(0, .ref hm), (1, .int p0)] := hl
  have hSF : CallFix p m c cX5_leave 2 s _ wsX5_leave RX5 := ⟨hx, hb, hml, hown, hts⟩
  have hi5 : ∀ w ∈ wsX50, w ∈ wsX5_leave := by decide +kernel
  have hf63 : (Cond.fieldLink RX5 63 "UmbrellaVoteModel" "there" "I").before _ s = true := hts _ (by decide +kernel)
  refine lv_aload_n hx hb dX5_leave_0 rfl (lv_at hl 0 rfl) ?_
  refine lv_iload_n hx hb dX5_leave_1 rfl (lv_at hl 1 rfl) ?_
  refine rcVi (b := hm) (As := [.int p0]) (rest := []) hSF (kX5_isThere l D cI cZ cC hm am om p0) (cwV 1 hts gX5_leave_X5_isThere rfl rfl rfl (by decide +kernel) ⟨Nat.le_of_ble_eq_true rfl, Nat.le_of_ble_eq_true rfl⟩) (va_recv hK hP (ci := 5) (q0 := 0) rfl rfl) (hP.sub [0, 1, 2, 3, 4, 5, 6, 7, 8, 9, 10, 11] rfl) hK hN rfl rfl hl.1 (Nat.le_of_ble_eq_true rfl) dX5_leave_2 ⟨Nat.zero_le _, Nat.zero_le _⟩ ?_
  refine lv_if_ne (tgt := 10) hx hb dX5_leave_5 (by decide) (fun c1 => ?_) (fun c1 => ?_)
  · skip
    refine lv_aload_n hx hb dX5_leave_10 rfl (lv_at hl 0 rfl) ?_
    refine lv_dup hx hb dX5_leave_11 rfl ?_
    refine va_get (D := D) (ci := 5) (v := .int (om.1 0)) (C := RX5) (T := TX5) (N := 24) hx hb hts hi5 hown hK hP 0 rfl rfl 0 (by decide) hf63 (fun _ h9 => h9) rfl dX5_leave_12 ?_
    refine lv_iconst (v := 1) hx hb dX5_leave_15 (by decide) ?_
    refine lv_iload_n hx hb dX5_leave_16 rfl (lv_at hl 1 rfl) ?_
    refine lv_ishl hx hb dX5_leave_17 ?_
    refine lv_iconst (v := (-1)) hx hb dX5_leave_18 (by decide) ?_
    refine lv_ixor hx hb dX5_leave_19 ?_
    refine lv_iand hx hb dX5_leave_20 ?_
    refine va_put (D := D) (ci := 5) (v := .int ((om.1 0) &&& ((1 <<< (p0 &&& 31)) ^^^ (-1)))) (ty := .int) (C := RX5) (T := TX5) (N := 24) hx hb hts hi5 tyX5 tyX5_ok nmX5 hown hK hP hD hS 0 rfl rfl 0 (by decide) hf63 (fun _ h9 => h9) rfl (by decide +kernel) rfl rfl (Nat.le_of_ble_eq_true rfl) dX5_leave_21 (fun H locs hP hD hS => ?_)
    have hP : va_P D vwCl (wX5 cI cZ hm am (us om 0 ((om.1 0) &&& ((1 <<< (p0 &&& 31)) ^^^ (-1))))) H := hP
    have hD : va_D A (wX5 cI cZ hm am (us om 0 ((om.1 0) &&& ((1 <<< (p0 &&& 31)) ^^^ (-1))))) := hD
    refine lv_aload_n hx hb dX5_leave_24 rfl (lv_at hl 0 rfl) ?_
    refine va_get (D := D) (ci := 5) (v := .int ((om.1 0) &&& ((1 <<< (p0 &&& 31)) ^^^ (-1)))) (C := RX5) (T := TX5) (N := 24) hx hb hts hi5 hown hK hP 0 rfl rfl 0 (by decide) hf63 (fun _ h9 => h9) rfl dX5_leave_25 ?_
    refine rcSi (As := [.int ((om.1 0) &&& ((1 <<< (p0 &&& 31)) ^^^ (-1)))]) (rest := []) hSF (kX5_ones l D cI cZ cC ((om.1 0) &&& ((1 <<< (p0 &&& 31)) ^^^ (-1))) (lv_64 h6 _)) (va_cwS 1 hts gX5_leave_X5_ones rfl rfl rfl (by decide +kernel) ⟨Nat.le_of_ble_eq_true rfl, Nat.le_of_ble_eq_true rfl⟩) (hP.sub [] rfl) hK hN rfl rfl hl.1 (Nat.le_of_ble_eq_true rfl) dX5_leave_28 ⟨Nat.zero_le _, Nat.zero_le _⟩ ?_
    have e9 : fX5_leave om p0 = ((fX5_ones ((om.1 0) &&& ((1 <<< (p0 &&& 31)) ^^^ (-1)))), (us om 0 ((om.1 0) &&& ((1 <<< (p0 &&& 31)) ^^^ (-1))))) := by
      simp only [fX5_leave, if_neg c1]
    exact W.iret hx hb hr (fun t ht hW => ⟨⟨_, (us om 0 ((om.1 0) &&& ((1 <<< (p0 &&& 31)) ^^^ (-1)))), rfl, ⟨by rw [e9], by rw [e9]⟩, ⟨by rw [ht]; exact hP, hD⟩⟩, hS.F ht⟩) hS.2.2 dX5_leave_31
  · skip
    refine lv_iconst (v := (-1)) hx hb dX5_leave_8 (by decide) ?_
    have e9 : fX5_leave om p0 = (((-1) : Int32), om) := by
      simp only [fX5_leave, if_pos c1]
    exact W.iret hx hb hr (fun t ht hW => ⟨⟨_, om, rfl, ⟨by rw [e9], by rw [e9]⟩, ⟨by rw [ht]; exact hP, hD⟩⟩, hS.F ht⟩) hS.2.2 dX5_leave_9

set_option maxHeartbeats 4000000 in
set_option maxRecDepth 100000 in
theorem kX5_weights (l : Launch) (D : va_G) (cI cZ cC : ClassId) (hm : Nat) (am : Nat → Nat) (om : OV)   : Met l yX5_weights wsX5_weights ({ frames := 0, cells := 0, slots := 0, locals := 0 }) (pR D (tyv cI cZ cC) (wX5 cI cZ hm am om) [.ref hm]) (vp_Si (fun r => r = fX5_weights om)) 0 0 (fun _ => False) := by
  refine Met.ofW (cc := cX5_weights) (maxL := 3) (ret := (some .int)) (by decide) rfl ?_
  intro p e s m args below meth c s₁ B hml hv
  obtain ⟨rfl, hP, hK, hN⟩ := hv
  have hx := B.exec
  have hb := B.bytes
  have hr := B.returns
  have hts := atoms_spec (ws := wsX5_weights) B.pre
  have hown : s.vm.findClass RX5 = some m.cls := findClass_of_methodNamed B.named
  have hlocks := B.notSynchronized
  have hP : va_P D vwCl (wX5 cI cZ hm am om) s.heap := hP
  have hl := lv_entry ([.ref hm]) (n := 3) (Nat.le_of_ble_eq_true rfl)
  rw [lg_entry_eq]
  generalize (lg_sl ([.ref hm]) ++ List.replicate (3 - (lg_sl ([.ref hm])).length) Slot.unset).toArray = ls at hl ⊢
  have hl : lv_has ls 3 [(0, .ref hm)] := hl
  have hSF : CallFix p m c cX5_weights 3 s _ wsX5_weights RX5 := ⟨hx, hb, hml, hown, hts⟩
  have hi5 : ∀ w ∈ wsX50, w ∈ wsX5_weights := by decide +kernel
  have hf19 : (Cond.fieldLink RX5 19 "UmbrellaVoteModel" "weight" "[I").before _ s = true := hts _ (by decide +kernel)
  refine lv_iconst (v := 0) hx hb dX5_weights_0 (by decide) ?_
  refine lv_istore_n (lv' := [(1, .int 0), (0, .ref hm)]) hx hb dX5_weights_1 rfl hl (by decide) rfl (fun ls hl => ?_)
  refine lv_iconst (v := 0) hx hb dX5_weights_2 (by decide) ?_
  refine lv_istore_n (lv' := [(2, .int 0), (1, .int 0), (0, .ref hm)]) hx hb dX5_weights_3 rfl hl (by decide) rfl (fun ls hl => ?_)
  refine W_lpR (10) (fun k9 ls9 => lv_has ls9 3 [(2, .int (nI k9)), (1, .int (fX5_weights_L4 om 0 k9)), (0, .ref hm)]) (lv_sub hl [0, 1, 2] rfl) ?_ ?_
  · intro k1 ls hk1 hl ih1
    generalize hs1 : fX5_weights_L4 om 0 k1 = y1 at hl
    obtain ⟨x1_1, en1⟩ : ∃ z, z = y1 := ⟨_, rfl⟩
    subst en1
    refine lv_iload_n hx hb dX5_weights_4 rfl (lv_at hl 0 rfl) ?_
    refine lv_bipush (v := 10) hx hb dX5_weights_5 (by decide) ?_
    refine lv_icmp_ge (tgt := 25) hx hb dX5_weights_7 (by decide) (fun c2 => absurd c2 (nI_ge hk1 (by decide))) (fun c2 => ?_)
    refine lv_iload_n hx hb dX5_weights_10 rfl (lv_at hl 1 rfl) ?_
    refine lv_aload_n hx hb dX5_weights_11 rfl (lv_at hl 2 rfl) ?_
    refine va_get (D := D) (ci := 5) (v := .ref (am 8)) (C := RX5) (T := TX5) (N := 24) hx hb hts hi5 hown hK hP 0 rfl rfl 8 (by decide) hf19 (fun _ h9 => h9) rfl dX5_weights_12 ?_
    refine lv_iload_n hx hb dX5_weights_15 rfl (lv_at hl 0 rfl) ?_
    refine va_iald (f := (om.2 8)) hx hb hK hP 4 0 rfl rfl (vp_in_nI (Nat.lt_of_lt_of_le hk1 (by decide)) (by decide)) dX5_weights_16 ?_
    refine lv_iadd hx hb dX5_weights_17 ?_
    refine lv_istore_n (lv' := [(1, .int (x1_1 + ((om.2 8) (nI k1).toNatClampNeg))), (2, .int (nI k1)), (0, .ref hm)]) hx hb dX5_weights_18 rfl hl (by decide) rfl (fun ls hl => ?_)
    refine lv_iinc (v := ((nI k1) + 1)) (lv' := [(2, .int ((nI k1) + 1)), (1, .int (x1_1 + ((om.2 8) (nI k1).toNatClampNeg))), (0, .ref hm)]) hx hb dX5_weights_19 hl (k := 1) rfl rfl (by decide) rfl (fun ls hl => ?_)
    refine lv_goto (tgt := 4) hx hb dX5_weights_22 (by decide) ?_
    have e8 : fX5_weights_L4s om k1 x1_1 = (x1_1 + ((om.2 8) (nI k1).toNatClampNeg)) := by
      rfl
    have e7 : fX5_weights_L4 om 0 (k1 + 1) = (x1_1 + ((om.2 8) (nI k1).toNatClampNeg)) := by
      show fX5_weights_L4s om k1 (fX5_weights_L4 om 0 k1) = _
      rw [hs1]; exact e8
    have hl9 : lv_has ls 3 [(2, .int (nI (k1 + 1))), (1, .int (fX5_weights_L4 om 0 (k1 + 1))), (0, .ref hm)] := by
      rw [nI_succ, e7]; exact lv_sub hl [0, 1, 2] rfl
    exact ih1 ls hl9
  intro ls hl
  refine lv_iload_n hx hb dX5_weights_4 rfl (lv_at hl 0 rfl) ?_
  refine lv_bipush (v := 10) hx hb dX5_weights_5 (by decide) ?_
  refine lv_icmp_ge (tgt := 25) hx hb dX5_weights_7 (by decide) (fun c3 => ?_) (fun c3 => absurd (nI_le (Nat.le_refl _) (by decide)) c3)
  refine lv_iload_n hx hb dX5_weights_25 rfl (lv_at hl 1 rfl) ?_
  have e9 : fX5_weights om = (fX5_weights_L4 om 0 (10)) := by
    rfl
  exact W.iret hx hb hr (fun t ht hW => ⟨_, rfl, e9.symm, ht⟩) (fun _ h9 => absurd h9 List.not_mem_nil) dX5_weights_26

set_option maxHeartbeats 4000000 in
set_option maxRecDepth 100000 in
theorem kX5_weight (l : Launch) (D : va_G) (cI cZ cC : ClassId) (hm : Nat) (am : Nat → Nat) (om : OV) (p0 : Int32) (p1 : Int32)  {sz : Nat} : Met l yX5_weight wsX5_weight ({ frames := 2, cells := 0, slots := 0, locals := 45 }) (pW D (tyv cI cZ cC) (wX5 cI cZ hm am om) sz [.ref hm, .int p0, .int p1]) (va_Qi (fun r (u : OV) => r = (fX5_weight om p0 p1).1 ∧ u = (fX5_weight om p0 p1).2) (qW D (fun (u : OV) => wX5 cI cZ hm am u) (va_A (wX5 cI cZ hm am om) sz)) (va_A (wX5 cI cZ hm am om) sz)) 0 0 (va_A (wX5 cI cZ hm am om) sz) := by
  refine Met.ofW (cc := cX5_weight) (maxL := 4) (ret := (some .int)) (by decide) rfl ?_
  intro p e s m args below meth c s₁ B hml hv
  obtain ⟨rfl, hsz, hP, hK, hN, hD0⟩ := hv
  have hx := B.exec
  have hb := B.bytes
  have hr := B.returns
  have hts := atoms_spec (ws := wsX5_weight) B.pre
  have hown : s.vm.findClass RX5 = some m.cls := findClass_of_methodNamed B.named
  have hlocks := B.notSynchronized
  subst hsz
  have hD := hD0.self (sz := s.heap.size)
  generalize hAe : va_A (wX5 cI cZ hm am om) s.heap.size = A at hD ⊢
  have hA : ∀ q : Nat, s.heap.size ≤ q → A q := fun q h => by rw [← hAe]; exact Or.inr h
  have hS : va_S A s.heap s.heap [] := va_S.rf
  have hP : va_P D vwCl (wX5 cI cZ hm am om) s.heap := hP
  have hl := lv_entry ([.ref hm, .int p0, .int p1]) (n := 4) (Nat.le_of_ble_eq_true rfl)
  rw [lg_entry_eq]
  generalize (lg_sl ([.ref hm, .int p0, .int p1]) ++ List.replicate (4 - (lg_sl ([.ref hm, .int p0, .int p1])).length) Slot.unset).toArray = ls at hl ⊢
  have hl : lv_has ls 4 [(0, .ref hm), (1, .int p0), (2, .int p1)] := hl
  have hSF : CallFix p m c cX5_weight 4 s _ wsX5_weight RX5 := ⟨hx, hb, hml, hown, hts⟩
  have hi5 : ∀ w ∈ wsX50, w ∈ wsX5_weight := by decide +kernel
  have hf19 : (Cond.fieldLink RX5 19 "UmbrellaVoteModel" "weight" "[I").before _ s = true := hts _ (by decide +kernel)
  refine lv_iload_n hx hb dX5_weight_0 rfl (lv_at hl 1 rfl) ?_
  refine rcSi (As := [.int p0]) (rest := []) hSF (kX5_isPlace l D cI cZ cC p0) (va_cwS 1 hts gX5_weight_X5_isPlace rfl rfl rfl (by decide +kernel) ⟨Nat.le_of_ble_eq_true rfl, Nat.le_of_ble_eq_true rfl⟩) (hP.sub [] rfl) hK hN rfl rfl hl.1 (Nat.le_of_ble_eq_true rfl) dX5_weight_1 ⟨Nat.zero_le _, Nat.zero_le _⟩ ?_
  refine lv_if_ne (tgt := 9) hx hb dX5_weight_4 (by decide) (fun c1 => ?_) (fun c1 => ?_)
  · skip
    refine lv_iload_n hx hb dX5_weight_9 rfl (lv_at hl 2 rfl) ?_
    refine lv_i2l hx hb dX5_weight_10 rfl ?_
    refine lv_lconst (v := 0) hx hb dX5_weight_11 (by decide) ?_
    refine lv_ldc2 (v := 9) hx hb hown (hts (.constantLong RX5 57 9) (by decide +kernel)) dX5_weight_12 ?_
    refine rcSi (As := [.long p1.toInt64, .long 0, .long 9]) (rest := []) hSF (kX5_in l D cI cZ cC p1.toInt64 0 9) (va_cwS 3 hts gX5_weight_X5_in rfl rfl rfl (by decide +kernel) ⟨Nat.le_of_ble_eq_true rfl, Nat.le_of_ble_eq_true rfl⟩) (hP.sub [] rfl) hK hN rfl rfl hl.1 (Nat.le_of_ble_eq_true rfl) dX5_weight_15 ⟨Nat.zero_le _, Nat.zero_le _⟩ ?_
    refine lv_if_eq (tgt := 38) hx hb dX5_weight_18 (by decide) (fun c2 => ?_) (fun c2 => ?_)
    · skip
      refine lv_bipush (v := (-2)) hx hb dX5_weight_38 (by decide) ?_
      have e9 : fX5_weight om p0 p1 = (((-2) : Int32), om) := by
        simp only [fX5_weight, if_neg c1, if_pos c2]
      exact W.iret hx hb hr (fun t ht hW => ⟨⟨_, om, rfl, ⟨by rw [e9], by rw [e9]⟩, ⟨by rw [ht]; exact hP, hD⟩⟩, hS.F ht⟩) hS.2.2 dX5_weight_40
    · skip
      refine lv_aload_n hx hb dX5_weight_21 rfl (lv_at hl 0 rfl) ?_
      refine rcVi (b := hm) (As := []) (rest := []) hSF (kX5_weights l D cI cZ cC hm am om) (cwV 0 hts gX5_weight_X5_weights rfl rfl rfl (by decide +kernel) ⟨Nat.le_of_ble_eq_true rfl, Nat.le_of_ble_eq_true rfl⟩) (va_recv hK hP (ci := 5) (q0 := 0) rfl rfl) (hP.sub [0, 1, 2, 3, 4, 5, 6, 7, 8, 9, 10, 11] rfl) hK hN rfl rfl hl.1 (Nat.le_of_ble_eq_true rfl) dX5_weight_22 ⟨Nat.zero_le _, Nat.zero_le _⟩ ?_
      refine lv_aload_n hx hb dX5_weight_25 rfl (lv_at hl 0 rfl) ?_
      refine va_get (D := D) (ci := 5) (v := .ref (am 8)) (C := RX5) (T := TX5) (N := 24) hx hb hts hi5 hown hK hP 0 rfl rfl 8 (by decide) hf19 (fun _ h9 => h9) rfl dX5_weight_26 ?_
      refine lv_iload_n hx hb dX5_weight_29 rfl (lv_at hl 1 rfl) ?_
      refine va_iald (f := (om.2 8)) hx hb hK hP 4 0 rfl rfl (ip10 (by with_reducible assumption)) dX5_weight_30 ?_
      refine lv_isub hx hb dX5_weight_31 ?_
      refine lv_iload_n hx hb dX5_weight_32 rfl (lv_at hl 2 rfl) ?_
      refine lv_iadd hx hb dX5_weight_33 ?_
      refine lv_iconst (v := 1) hx hb dX5_weight_34 (by decide) ?_
      refine lv_icmp_ge (tgt := 41) hx hb dX5_weight_35 (by decide) (fun c3 => ?_) (fun c3 => ?_)
      · skip
        refine lv_aload_n hx hb dX5_weight_41 rfl (lv_at hl 0 rfl) ?_
        refine va_get (D := D) (ci := 5) (v := .ref (am 8)) (C := RX5) (T := TX5) (N := 24) hx hb hts hi5 hown hK hP 0 rfl rfl 8 (by decide) hf19 (fun _ h9 => h9) rfl dX5_weight_42 ?_
        refine lv_iload_n hx hb dX5_weight_45 rfl (lv_at hl 1 rfl) ?_
        refine va_iald (f := (om.2 8)) hx hb hK hP 4 0 rfl rfl (ip10 (by with_reducible assumption)) dX5_weight_46 ?_
        refine lv_istore_n (lv' := [(3, .int ((om.2 8) p0.toNatClampNeg)), (0, .ref hm), (1, .int p0), (2, .int p1)]) hx hb dX5_weight_47 rfl hl (by decide) rfl (fun ls hl => ?_)
        refine lv_aload_n hx hb dX5_weight_48 rfl (lv_at hl 1 rfl) ?_
        refine va_get (D := D) (ci := 5) (v := .ref (am 8)) (C := RX5) (T := TX5) (N := 24) hx hb hts hi5 hown hK hP 0 rfl rfl 8 (by decide) hf19 (fun _ h9 => h9) rfl dX5_weight_49 ?_
        refine lv_iload_n hx hb dX5_weight_52 rfl (lv_at hl 2 rfl) ?_
        refine lv_iload_n hx hb dX5_weight_53 rfl (lv_at hl 3 rfl) ?_
        refine va_iast hx hb hK hP hD hS 4 0 rfl rfl (ip10 (by with_reducible assumption)) dX5_weight_54 (fun H locs hP hD hS => ?_)
        have hP : va_P D vwCl (wX5 cI cZ hm am (ua om 8 p0.toNatClampNeg p1)) H := hP
        have hD : va_D A (wX5 cI cZ hm am (ua om 8 p0.toNatClampNeg p1)) := hD
        refine lv_iload_n hx hb dX5_weight_55 rfl (lv_at hl 0 rfl) ?_
        have e9 : fX5_weight om p0 p1 = (((om.2 8) p0.toNatClampNeg), (ua om 8 p0.toNatClampNeg p1)) := by
          simp only [fX5_weight, if_neg c1, if_neg c2, if_pos c3]
        exact W.iret hx hb hr (fun t ht hW => ⟨⟨_, (ua om 8 p0.toNatClampNeg p1), rfl, ⟨by rw [e9], by rw [e9]⟩, ⟨by rw [ht]; exact hP, hD⟩⟩, hS.F ht⟩) hS.2.2 dX5_weight_56
      · skip
        refine lv_bipush (v := (-2)) hx hb dX5_weight_38 (by decide) ?_
        have e9 : fX5_weight om p0 p1 = (((-2) : Int32), om) := by
          simp only [fX5_weight, if_neg c1, if_neg c2, if_neg c3]
        exact W.iret hx hb hr (fun t ht hW => ⟨⟨_, om, rfl, ⟨by rw [e9], by rw [e9]⟩, ⟨by rw [ht]; exact hP, hD⟩⟩, hS.F ht⟩) hS.2.2 dX5_weight_40
  · skip
    refine lv_iconst (v := (-1)) hx hb dX5_weight_7 (by decide) ?_
    have e9 : fX5_weight om p0 p1 = (((-1) : Int32), om) := by
      simp only [fX5_weight, if_pos c1]
    exact W.iret hx hb hr (fun t ht hW => ⟨⟨_, om, rfl, ⟨by rw [e9], by rw [e9]⟩, ⟨by rw [ht]; exact hP, hD⟩⟩, hS.F ht⟩) hS.2.2 dX5_weight_8

set_option maxHeartbeats 4000000 in
set_option maxRecDepth 100000 in
theorem kX5_sixtieths (l : Launch) (D : va_G) (cI cZ cC : ClassId) (hm : Nat) (am : Nat → Nat) (om : OV) (p0 : Int32)  : Met l yX5_sixtieths wsX5_sixtieths ({ frames := 6, cells := 0, slots := 0, locals := 138 }) (pR D (tyv cI cZ cC) (wX5 cI cZ hm am om) [.ref hm, .int p0]) (vp_Si (fun r => r = fX5_sixtieths om p0)) 0 0 (fun _ => False) := by
  refine Met.ofW (cc := cX5_sixtieths) (maxL := 8) (ret := (some .int)) (by decide) rfl ?_
  intro p e s m args below meth c s₁ B hml hv
  obtain ⟨rfl, hP, hK, hN⟩ := hv
  have hx := B.exec
  have hb := B.bytes
  have hr := B.returns
  have hts := atoms_spec (ws := wsX5_sixtieths) B.pre
  have hown : s.vm.findClass RX5 = some m.cls := findClass_of_methodNamed B.named
  have hlocks := B.notSynchronized
  have hP : va_P D vwCl (wX5 cI cZ hm am om) s.heap := hP
  have hl := lv_entry ([.ref hm, .int p0]) (n := 8) (Nat.le_of_ble_eq_true rfl)
  rw [lg_entry_eq]
  generalize (lg_sl ([.ref hm, .int p0]) ++ List.replicate (8 - (lg_sl ([.ref hm, .int p0])).length) Slot.unset).toArray = ls at hl ⊢
  have hl : lv_has ls 8 [(0, .ref hm), (1, .int p0)] := hl
  have hSF : CallFix p m c cX5_sixtieths 8 s _ wsX5_sixtieths RX5 := ⟨hx, hb, hml, hown, hts⟩
  have hi5 : ∀ w ∈ wsX50, w ∈ wsX5_sixtieths := by decide +kernel
  have hf16 : (Cond.fieldLink RX5 16 "UmbrellaVoteModel" "partyOf" "[I").before _ s = true := hts _ (by decide +kernel)
  have hf19 : (Cond.fieldLink RX5 19 "UmbrellaVoteModel" "weight" "[I").before _ s = true := hts _ (by decide +kernel)
  refine lv_iconst (v := 0) hx hb dX5_sixtieths_0 (by decide) ?_
  refine lv_istore_n (lv' := [(2, .int 0), (0, .ref hm), (1, .int p0)]) hx hb dX5_sixtieths_1 rfl hl (by decide) rfl (fun ls hl => ?_)
  refine lv_iconst (v := 0) hx hb dX5_sixtieths_2 (by decide) ?_
  refine lv_istore_n (lv' := [(3, .int 0), (2, .int 0), (0, .ref hm), (1, .int p0)]) hx hb dX5_sixtieths_3 rfl hl (by decide) rfl (fun ls hl => ?_)
  refine W_lpR (10) (fun k9 ls9 => lv_has ls9 8 [(3, .int (nI k9)), (2, .int (fX5_sixtieths_L4 om p0 0 k9)), (0, .ref hm), (1, .int p0)]) (lv_sub hl [0, 1, 2, 3] rfl) ?_ ?_
  · intro k1 ls hk1 hl ih1
    generalize hs1 : fX5_sixtieths_L4 om p0 0 k1 = y1 at hl
    obtain ⟨x2_1, en1⟩ : ∃ z, z = y1 := ⟨_, rfl⟩
    subst en1
    refine lv_iload_n hx hb dX5_sixtieths_4 rfl (lv_at hl 0 rfl) ?_
    refine lv_bipush (v := 10) hx hb dX5_sixtieths_5 (by decide) ?_
    refine lv_icmp_ge (tgt := 134) hx hb dX5_sixtieths_7 (by decide) (fun c2 => absurd c2 (nI_ge hk1 (by decide))) (fun c2 => ?_)
    refine lv_aload_n hx hb dX5_sixtieths_10 rfl (lv_at hl 2 rfl) ?_
    refine lv_iload_n hx hb dX5_sixtieths_11 rfl (lv_at hl 0 rfl) ?_
    refine rcVi (b := hm) (As := [.int (nI k1)]) (rest := []) hSF (kX5_rulersBy l D cI cZ cC hm am om (nI k1)) (cwV 1 hts gX5_sixtieths_X5_rulersBy rfl rfl rfl (by decide +kernel) ⟨Nat.le_of_ble_eq_true rfl, Nat.le_of_ble_eq_true rfl⟩) (va_recv hK hP (ci := 5) (q0 := 0) rfl rfl) (hP.sub [0, 1, 2, 3, 4, 5, 6, 7, 8, 9, 10, 11] rfl) hK hN rfl rfl hl.1 (Nat.le_of_ble_eq_true rfl) dX5_sixtieths_12 ⟨Nat.zero_le _, Nat.zero_le _⟩ ?_
    refine lv_istore (lv' := [(4, .int (fX5_rulersBy om (nI k1))), (3, .int (nI k1)), (2, .int x2_1), (0, .ref hm), (1, .int p0)]) hx hb dX5_sixtieths_15 hl (by decide) rfl (fun ls hl => ?_)
    refine lv_iconst (v := 0) hx hb dX5_sixtieths_17 (by decide) ?_
    refine lv_istore (lv' := [(5, .int 0), (4, .int (fX5_rulersBy om (nI k1))), (3, .int (nI k1)), (2, .int x2_1), (0, .ref hm), (1, .int p0)]) hx hb dX5_sixtieths_18 hl (by decide) rfl (fun ls hl => ?_)
    refine lv_iconst (v := 0) hx hb dX5_sixtieths_20 (by decide) ?_
    refine lv_istore (lv' := [(6, .int 0), (5, .int 0), (4, .int (fX5_rulersBy om (nI k1))), (3, .int (nI k1)), (2, .int x2_1), (0, .ref hm), (1, .int p0)]) hx hb dX5_sixtieths_21 hl (by decide) rfl (fun ls hl => ?_)
    refine W_lpR (6) (fun k9 ls9 => lv_has ls9 8 [(6, .int (nI k9)), (5, .int (fX5_sixtieths_L23 om p0 k1 0 k9)), (4, .int (fX5_rulersBy om (nI k1))), (3, .int (nI k1)), (2, .int x2_1), (0, .ref hm), (1, .int p0)]) (lv_sub hl [0, 1, 2, 3, 4, 5, 6] rfl) ?_ ?_
    · intro k3 ls hk3 hl ih3
      generalize hs3 : fX5_sixtieths_L23 om p0 k1 0 k3 = y3 at hl
      obtain ⟨x5_3, en3⟩ : ∃ z, z = y3 := ⟨_, rfl⟩
      subst en3
      refine lv_iload hx hb dX5_sixtieths_23 (lv_at hl 0 rfl) ?_
      refine lv_bipush (v := 6) hx hb dX5_sixtieths_25 (by decide) ?_
      refine lv_icmp_ge (tgt := 98) hx hb dX5_sixtieths_27 (by decide) (fun c4 => absurd c4 (nI_ge hk3 (by decide))) (fun c4 => ?_)
      refine lv_iload_n hx hb dX5_sixtieths_30 rfl (lv_at hl 6 rfl) ?_
      refine lv_bipush (v := 6) hx hb dX5_sixtieths_31 (by decide) ?_
      refine W_itei (P := 6 ≤ p0) (a := (if ((om.2 3) (nI k3).toNatClampNeg) = (p0 - 6) then (1 : Int32) else 0)) (b := (if (nI k3) = p0 then (1 : Int32) else 0)) (J := 69) (ls9 := ls) (rest9 := []) (fun ht6 hf6 => ?_) ?_
      · refine lv_icmp_ge (tgt := 50) hx hb dX5_sixtieths_33 (by decide) (fun c5 => ?_) (fun c5 => ?_)
        · skip
          refine lv_aload_n hx hb dX5_sixtieths_50 rfl (lv_at hl 5 rfl) ?_
          refine va_get (D := D) (ci := 5) (v := .ref (am 3)) (C := RX5) (T := TX5) (N := 24) hx hb hts hi5 hown hK hP 0 rfl rfl 3 (by decide) hf16 (fun _ h9 => h9) rfl dX5_sixtieths_51 ?_
          refine lv_iload hx hb dX5_sixtieths_54 (lv_at hl 0 rfl) ?_
          refine va_iald (f := (om.2 3)) hx hb hK hP 3 0 rfl rfl (vp_in_nI (Nat.lt_of_lt_of_le hk3 (by decide)) (by decide)) dX5_sixtieths_56 ?_
          refine lv_iload_n hx hb dX5_sixtieths_57 rfl (lv_at hl 6 rfl) ?_
          refine lv_bipush (v := 6) hx hb dX5_sixtieths_58 (by decide) ?_
          refine lv_isub hx hb dX5_sixtieths_60 ?_
          refine W_itei (P := ((om.2 3) (nI k3).toNatClampNeg) = (p0 - 6)) (a := 1) (b := 0) (J := 69) (ls9 := ls) (rest9 := []) (fun ht8 hf8 => ?_) ?_
          · refine lv_icmp_ne (tgt := 68) hx hb dX5_sixtieths_61 (by decide) (fun c7 => ?_) (fun c7 => ?_)
            · skip
              refine lv_iconst (v := 0) hx hb dX5_sixtieths_68 (by decide) ?_
              exact hf8 c7
            · skip
              refine lv_iconst (v := 1) hx hb dX5_sixtieths_64 (by decide) ?_
              refine lv_goto (tgt := 69) hx hb dX5_sixtieths_65 (by decide) ?_
              exact ht8 c7
          exact ht6 c5
        · skip
          refine lv_iload hx hb dX5_sixtieths_36 (lv_at hl 0 rfl) ?_
          refine lv_iload_n hx hb dX5_sixtieths_38 rfl (lv_at hl 6 rfl) ?_
          refine W_itei (P := (nI k3) = p0) (a := 1) (b := 0) (J := 69) (ls9 := ls) (rest9 := []) (fun ht10 hf10 => ?_) ?_
          · refine lv_icmp_ne (tgt := 46) hx hb dX5_sixtieths_39 (by decide) (fun c9 => ?_) (fun c9 => ?_)
            · skip
              refine lv_iconst (v := 0) hx hb dX5_sixtieths_46 (by decide) ?_
              refine lv_goto (tgt := 69) hx hb dX5_sixtieths_47 (by decide) ?_
              exact hf10 c9
            · skip
              refine lv_iconst (v := 1) hx hb dX5_sixtieths_42 (by decide) ?_
              refine lv_goto (tgt := 69) hx hb dX5_sixtieths_43 (by decide) ?_
              exact ht10 c9
          exact hf6 c5
      refine lv_topi (fun x11 ex11 => ?_)
      refine lv_istore (lv' := [(7, .int x11), (6, .int (nI k3)), (5, .int x5_3), (4, .int (fX5_rulersBy om (nI k1))), (3, .int (nI k1)), (2, .int x2_1), (0, .ref hm), (1, .int p0)]) hx hb dX5_sixtieths_69 hl (by decide) rfl (fun ls hl => ?_)
      refine lv_iload hx hb dX5_sixtieths_71 (lv_at hl 2 rfl) ?_
      refine lv_iload hx hb dX5_sixtieths_73 (lv_at hl 0 rfl) ?_
      refine W_itei (P := x11 = 0) (a := 0) (b := (((fX5_rulersBy om (nI k1)) >>> ((nI k3) &&& 31)) &&& 1)) (J := 89) (ls9 := ls) (rest9 := [.int x5_3]) (fun ht13 hf13 => ?_) ?_
      · refine lv_if_eq (tgt := 88) hx hb dX5_sixtieths_75 (by decide) (fun c12 => ?_) (fun c12 => ?_)
        · skip
          refine lv_iconst (v := 0) hx hb dX5_sixtieths_88 (by decide) ?_
          exact ht13 c12
        · skip
          refine lv_iload hx hb dX5_sixtieths_78 (lv_at hl 3 rfl) ?_
          refine lv_iload hx hb dX5_sixtieths_80 (lv_at hl 1 rfl) ?_
          refine lv_ishr hx hb dX5_sixtieths_82 ?_
          refine lv_iconst (v := 1) hx hb dX5_sixtieths_83 (by decide) ?_
          refine lv_iand hx hb dX5_sixtieths_84 ?_
          refine lv_goto (tgt := 89) hx hb dX5_sixtieths_85 (by decide) ?_
          exact hf13 c12
      refine lv_iadd hx hb dX5_sixtieths_89 ?_
      refine lv_topi (fun x14 ex14 => ?_)
      refine lv_istore (lv' := [(5, .int x14), (7, .int x11), (6, .int (nI k3)), (4, .int (fX5_rulersBy om (nI k1))), (3, .int (nI k1)), (2, .int x2_1), (0, .ref hm), (1, .int p0)]) hx hb dX5_sixtieths_90 hl (by decide) rfl (fun ls hl => ?_)
      refine lv_iinc (v := ((nI k3) + 1)) (lv' := [(6, .int ((nI k3) + 1)), (5, .int x14), (7, .int x11), (4, .int (fX5_rulersBy om (nI k1))), (3, .int (nI k1)), (2, .int x2_1), (0, .ref hm), (1, .int p0)]) hx hb dX5_sixtieths_92 hl (k := 2) rfl rfl (by decide) rfl (fun ls hl => ?_)
      refine lv_goto (tgt := 23) hx hb dX5_sixtieths_95 (by decide) ?_
      have e8 : fX5_sixtieths_L23s om p0 k1 k3 x5_3 = x14 := by
        unfold fX5_sixtieths_L23s
        rw [← ex11]
        unfold fX5_sixtieths_L23s_x11
        rw [← ex14]
        rfl
      have e7 : fX5_sixtieths_L23 om p0 k1 0 (k3 + 1) = x14 := by
        show fX5_sixtieths_L23s om p0 k1 k3 (fX5_sixtieths_L23 om p0 k1 0 k3) = _
        rw [hs3]; exact e8
      have hl9 : lv_has ls 8 [(6, .int (nI (k3 + 1))), (5, .int (fX5_sixtieths_L23 om p0 k1 0 (k3 + 1))), (4, .int (fX5_rulersBy om (nI k1))), (3, .int (nI k1)), (2, .int x2_1), (0, .ref hm), (1, .int p0)] := by
        rw [nI_succ, e7]; exact lv_sub hl [0, 1, 3, 4, 5, 6, 7] rfl
      exact ih3 ls hl9
    intro ls hl
    refine lv_iload hx hb dX5_sixtieths_23 (lv_at hl 0 rfl) ?_
    refine lv_bipush (v := 6) hx hb dX5_sixtieths_25 (by decide) ?_
    refine lv_icmp_ge (tgt := 98) hx hb dX5_sixtieths_27 (by decide) (fun c15 => ?_) (fun c15 => absurd (nI_le (Nat.le_refl _) (by decide)) c15)
    refine lv_iload_n hx hb dX5_sixtieths_98 rfl (lv_at hl 4 rfl) ?_
    refine lv_iload hx hb dX5_sixtieths_99 (lv_at hl 2 rfl) ?_
    refine W_itei (P := (fX5_rulersBy om (nI k1)) = 0) (a := 0) (b := ((((om.2 8) (nI k1).toNatClampNeg) * (fX5_sixtieths_L23 om p0 k1 0 (6))) * (60 / (fX5_ones (fX5_rulersBy om (nI k1)))))) (J := 126) (ls9 := ls) (rest9 := [.int x2_1]) (fun ht17 hf17 => ?_) ?_
    · refine lv_if_ne (tgt := 108) hx hb dX5_sixtieths_101 (by decide) (fun c16 => ?_) (fun c16 => ?_)
      · skip
        refine lv_aload_n hx hb dX5_sixtieths_108 rfl (lv_at hl 5 rfl) ?_
        refine va_get (D := D) (ci := 5) (v := .ref (am 8)) (C := RX5) (T := TX5) (N := 24) hx hb hts hi5 hown hK hP 0 rfl rfl 8 (by decide) hf19 (fun _ h9 => h9) rfl dX5_sixtieths_109 ?_
        refine lv_iload_n hx hb dX5_sixtieths_112 rfl (lv_at hl 3 rfl) ?_
        refine va_iald (f := (om.2 8)) hx hb hK hP 4 0 rfl rfl (vp_in_nI (Nat.lt_of_lt_of_le hk1 (by decide)) (by decide)) dX5_sixtieths_113 ?_
        refine lv_iload hx hb dX5_sixtieths_114 (lv_at hl 1 rfl) ?_
        refine lv_imul hx hb dX5_sixtieths_116 ?_
        refine lv_bipush (v := 60) hx hb dX5_sixtieths_117 (by decide) ?_
        refine lv_iload hx hb dX5_sixtieths_119 (lv_at hl 2 rfl) ?_
        refine rcSi (As := [.int (fX5_rulersBy om (nI k1))]) (rest := [.int 60, .int (((om.2 8) (nI k1).toNatClampNeg) * (fX5_sixtieths_L23 om p0 k1 0 (6))), .int x2_1]) hSF (kX5_ones l D cI cZ cC (fX5_rulersBy om (nI k1)) (rb64 _ _)) (va_cwS 1 hts gX5_sixtieths_X5_ones rfl rfl rfl (by decide +kernel) ⟨Nat.le_of_ble_eq_true rfl, Nat.le_of_ble_eq_true rfl⟩) (hP.sub [] rfl) hK hN rfl rfl hl.1 (Nat.le_of_ble_eq_true rfl) dX5_sixtieths_121 ⟨Nat.zero_le _, Nat.zero_le _⟩ ?_
        refine lv_idiv hx hb dX5_sixtieths_124 (ones_nz (rb64 _ _) (by with_reducible assumption)) ?_
        refine lv_imul hx hb dX5_sixtieths_125 ?_
        exact hf17 c16
      · skip
        refine lv_iconst (v := 0) hx hb dX5_sixtieths_104 (by decide) ?_
        refine lv_goto (tgt := 126) hx hb dX5_sixtieths_105 (by decide) ?_
        exact ht17 c16
    refine lv_iadd hx hb dX5_sixtieths_126 ?_
    refine lv_topi (fun x18 ex18 => ?_)
    refine lv_istore_n (lv' := [(2, .int x18), (6, .int (nI (6))), (5, .int (fX5_sixtieths_L23 om p0 k1 0 (6))), (4, .int (fX5_rulersBy om (nI k1))), (3, .int (nI k1)), (0, .ref hm), (1, .int p0)]) hx hb dX5_sixtieths_127 rfl hl (by decide) rfl (fun ls hl => ?_)
    refine lv_iinc (v := ((nI k1) + 1)) (lv' := [(3, .int ((nI k1) + 1)), (2, .int x18), (6, .int (nI (6))), (5, .int (fX5_sixtieths_L23 om p0 k1 0 (6))), (4, .int (fX5_rulersBy om (nI k1))), (0, .ref hm), (1, .int p0)]) hx hb dX5_sixtieths_128 hl (k := 4) rfl rfl (by decide) rfl (fun ls hl => ?_)
    refine lv_goto (tgt := 4) hx hb dX5_sixtieths_131 (by decide) ?_
    have e8 : fX5_sixtieths_L4s om p0 k1 x2_1 = x18 := by
      unfold fX5_sixtieths_L4s
      rw [← ex18]
      rfl
    have e7 : fX5_sixtieths_L4 om p0 0 (k1 + 1) = x18 := by
      show fX5_sixtieths_L4s om p0 k1 (fX5_sixtieths_L4 om p0 0 k1) = _
      rw [hs1]; exact e8
    have hl9 : lv_has ls 8 [(3, .int (nI (k1 + 1))), (2, .int (fX5_sixtieths_L4 om p0 0 (k1 + 1))), (0, .ref hm), (1, .int p0)] := by
      rw [nI_succ, e7]; exact lv_sub hl [0, 1, 5, 6] rfl
    exact ih1 ls hl9
  intro ls hl
  refine lv_iload_n hx hb dX5_sixtieths_4 rfl (lv_at hl 0 rfl) ?_
  refine lv_bipush (v := 10) hx hb dX5_sixtieths_5 (by decide) ?_
  refine lv_icmp_ge (tgt := 134) hx hb dX5_sixtieths_7 (by decide) (fun c19 => ?_) (fun c19 => absurd (nI_le (Nat.le_refl _) (by decide)) c19)
  refine lv_iload_n hx hb dX5_sixtieths_134 rfl (lv_at hl 1 rfl) ?_
  have e9 : fX5_sixtieths om p0 = (fX5_sixtieths_L4 om p0 0 (10)) := by
    rfl
  exact W.iret hx hb hr (fun t ht hW => ⟨_, rfl, e9.symm, ht⟩) (fun _ h9 => absurd h9 List.not_mem_nil) dX5_sixtieths_135

set_option maxHeartbeats 4000000 in
set_option maxRecDepth 100000 in
theorem kX5_lowest (l : Launch) (D : va_G) (cI cZ cC : ClassId)  (p0 : Int64) (p1 : Int64) (p2 : Int32) (h9 : ∃ a b : Nat, p0 = lN a ∧ p1 = lN b ∧ a < 40000 ∧ 0 < b ∧ b < 40000) : Met l yX5_lowest wsX5_lowest ({ frames := 0, cells := 0, slots := 0, locals := 0 }) (pR D (tyv cI cZ cC) ([]) [.long p0, .long p1, .int p2]) (vp_Sl (fun r => r = fX5_lowest p0 p1 p2)) 0 0 (fun _ => False) := by
  refine Met.ofW (cc := cX5_lowest) (maxL := 11) (ret := (some .long)) (by decide) rfl ?_
  intro p e s m args below meth c s₁ B hml hv
  obtain ⟨rfl, hP, hK, hN⟩ := hv
  have hx := B.exec
  have hb := B.bytes
  have hr := B.returns
  have hts := atoms_spec (ws := wsX5_lowest) B.pre
  have hown : s.vm.findClass RX5 = some m.cls := findClass_of_methodNamed B.named
  have hlocks := B.notSynchronized
  have hP : va_P D vwCl ([]) s.heap := hP
  have hl := lv_entry ([.long p0, .long p1, .int p2]) (n := 11) (Nat.le_of_ble_eq_true rfl)
  rw [lg_entry_eq]
  generalize (lg_sl ([.long p0, .long p1, .int p2]) ++ List.replicate (11 - (lg_sl ([.long p0, .long p1, .int p2])).length) Slot.unset).toArray = ls at hl ⊢
  have hl : lv_has ls 11 [(0, .long p0), (2, .long p1), (4, .int p2)] := hl
  have hSF : CallFix p m c cX5_lowest 11 s _ wsX5_lowest RX5 := ⟨hx, hb, hml, hown, hts⟩
  refine lv_lload_n hx hb dX5_lowest_0 rfl (lv_at hl 1 rfl) ?_
  refine lv_lstore (lv' := [(5, .long p1), (0, .long p0), (2, .long p1), (4, .int p2)]) hx hb dX5_lowest_1 hl (by decide) rfl (fun ls hl => ?_)
  refine lv_lload_n hx hb dX5_lowest_3 rfl (lv_at hl 1 rfl) ?_
  refine lv_lstore (lv' := [(7, .long p0), (5, .long p1), (0, .long p0), (2, .long p1), (4, .int p2)]) hx hb dX5_lowest_4 hl (by decide) rfl (fun ls hl => ?_)
  refine W_ltR (σ := Int64 × Int64) (40000) (fun r9 k9 x9 ls9 => lv_has ls9 11 [(7, .long x9.1), (5, .long x9.2), (0, .long p0), (2, .long p1), (4, .int p2)] ∧ fX5_lowest_L6 p0 p1 p2 r9 k9 x9.1 x9.2 = fX5_lowest_L6 p0 p1 p2 (40000) 0 p0 p1 ∧ (∃ a b : Nat, x9.2 = lN a ∧ x9.1 = lN b ∧ 0 < a ∧ a < 1000000 ∧ b < 1000000 ∧ b ≤ r9)) (p0, p1) ⟨lv_sub hl [0, 1, 2, 3, 4] rfl, rfl, (by obtain ⟨a9, b9, e9, e8, h0, h1, h2⟩ := h9; exact ⟨b9, a9, e8, e9, by omega, by omega, by omega, by omega⟩)⟩ ?_ ?_
  · intro r1 k1 y1 ls hr1 hI9 ih1
    obtain ⟨x7_1, x5_1⟩ := y1
    obtain ⟨hl, hG1, hi1⟩ := hI9
    have hG1 : fX5_lowest_L6 p0 p1 p2 (r1 + 1) k1 x7_1 x5_1 = fX5_lowest_L6 p0 p1 p2 (40000) 0 p0 p1 := hG1
    have hi1 : ∃ a b : Nat, x5_1 = lN a ∧ x7_1 = lN b ∧ 0 < a ∧ a < 1000000 ∧ b < 1000000 ∧ b ≤ (r1 + 1) := hi1
    have hl : lv_has ls 11 [(7, .long x7_1), (5, .long x5_1), (0, .long p0), (2, .long p1), (4, .int p2)] := hl
    have hk1 : k1 < 40000 := by omega
    refine lv_lload hx hb dX5_lowest_6 (lv_at hl 0 rfl) ?_
    refine lv_lconst (v := 0) hx hb dX5_lowest_8 (by decide) ?_
    refine W.lcmp hx hb dX5_lowest_9 ?_
    refine lv_if_eq (tgt := 31) hx hb dX5_lowest_10 (by decide) (fun c2 => ?_) (fun c2 => ?_)
    · skip
      refine lv_iload hx hb dX5_lowest_31 (lv_at hl 4 rfl) ?_
      refine W_itel (P := p2 = 0) (a := (p0 / x5_1)) (b := (p1 / x5_1)) (J := 47) (ls9 := ls) (rest9 := []) (fun ht4 hf4 => ?_) ?_
      · refine lv_if_ne (tgt := 43) hx hb dX5_lowest_33 (by decide) (fun c3 => ?_) (fun c3 => ?_)
        · skip
          refine lv_lload_n hx hb dX5_lowest_43 rfl (lv_at hl 3 rfl) ?_
          refine lv_lload hx hb dX5_lowest_44 (lv_at hl 1 rfl) ?_
          refine lv_ldiv hx hb dX5_lowest_46 (lw_nz hi1) ?_
          exact hf4 c3
        · skip
          refine lv_lload_n hx hb dX5_lowest_36 rfl (lv_at hl 2 rfl) ?_
          refine lv_lload hx hb dX5_lowest_37 (lv_at hl 1 rfl) ?_
          refine lv_ldiv hx hb dX5_lowest_39 (lw_nz hi1) ?_
          refine lv_goto (tgt := 47) hx hb dX5_lowest_40 (by decide) ?_
          exact ht4 c3
      have e9 : fX5_lowest p0 p1 p2 = (if p2 = 0 then (p0 / x5_1) else (p1 / x5_1)) := by
        refine Eq.trans (b := fX5_lowest_L6 p0 p1 p2 (40000) 0 p0 p1) ?_ ?_
        · rfl
        · rw [← hG1]; simp only [fX5_lowest_L6, if_pos c2]
      exact W.lret hx hb hr (fun t ht hW => ⟨_, rfl, e9.symm, ht⟩) (fun _ h9 => absurd h9 List.not_mem_nil) dX5_lowest_47
    · skip
      refine lv_lload hx hb dX5_lowest_13 (lv_at hl 1 rfl) ?_
      refine lv_lload hx hb dX5_lowest_15 (lv_at hl 0 rfl) ?_
      refine lv_lrem hx hb dX5_lowest_17 (lc_ne (by with_reducible assumption)) ?_
      refine lv_lstore (lv' := [(9, .long (x5_1 - x5_1 / x7_1 * x7_1)), (7, .long x7_1), (5, .long x5_1), (0, .long p0), (2, .long p1), (4, .int p2)]) hx hb dX5_lowest_18 hl (by decide) rfl (fun ls hl => ?_)
      refine lv_lload hx hb dX5_lowest_20 (lv_at hl 1 rfl) ?_
      refine lv_lstore (lv' := [(5, .long x7_1), (9, .long (x5_1 - x5_1 / x7_1 * x7_1)), (7, .long x7_1), (0, .long p0), (2, .long p1), (4, .int p2)]) hx hb dX5_lowest_22 hl (by decide) rfl (fun ls hl => ?_)
      refine lv_lload hx hb dX5_lowest_24 (lv_at hl 1 rfl) ?_
      refine lv_lstore (lv' := [(7, .long (x5_1 - x5_1 / x7_1 * x7_1)), (5, .long x7_1), (9, .long (x5_1 - x5_1 / x7_1 * x7_1)), (0, .long p0), (2, .long p1), (4, .int p2)]) hx hb dX5_lowest_26 hl (by decide) rfl (fun ls hl => ?_)
      refine lv_goto (tgt := 6) hx hb dX5_lowest_28 (by decide) ?_
      have hl9 : lv_has ls 11 [(7, .long (x5_1 - x5_1 / x7_1 * x7_1)), (5, .long x7_1), (0, .long p0), (2, .long p1), (4, .int p2)] := by
        exact lv_sub hl [0, 1, 3, 4, 5] rfl
      have e8 : fX5_lowest_L6 p0 p1 p2 r1 (k1 + 1) (x5_1 - x5_1 / x7_1 * x7_1) x7_1 = fX5_lowest_L6 p0 p1 p2 (40000) 0 p0 p1 := by
        rw [← hG1]
        simp only [fX5_lowest_L6, if_neg c2]
      have h7 : ∃ a b : Nat, x7_1 = lN a ∧ (x5_1 - x5_1 / x7_1 * x7_1) = lN b ∧ 0 < a ∧ a < 1000000 ∧ b < 1000000 ∧ b ≤ r1 := by
        exact lw_step hi1 (by with_reducible assumption)
      exact ih1 ((x5_1 - x5_1 / x7_1 * x7_1), x7_1) ls ⟨hl9, e8, h7⟩
  intro k1 y1 ls hB1 hI9
  obtain ⟨x7_1, x5_1⟩ := y1
  obtain ⟨hl, hG1, hi1⟩ := hI9
  have hG1 : fX5_lowest_L6 p0 p1 p2 0 k1 x7_1 x5_1 = fX5_lowest_L6 p0 p1 p2 (40000) 0 p0 p1 := hG1
  have hi1 : ∃ a b : Nat, x5_1 = lN a ∧ x7_1 = lN b ∧ 0 < a ∧ a < 1000000 ∧ b < 1000000 ∧ b ≤ 0 := hi1
  have hl : lv_has ls 11 [(7, .long x7_1), (5, .long x5_1), (0, .long p0), (2, .long p1), (4, .int p2)] := hl
  refine lv_lload hx hb dX5_lowest_6 (lv_at hl 0 rfl) ?_
  refine lv_lconst (v := 0) hx hb dX5_lowest_8 (by decide) ?_
  refine W.lcmp hx hb dX5_lowest_9 ?_
  refine lv_if_eq (tgt := 31) hx hb dX5_lowest_10 (by decide) (fun c5 => ?_) (fun c5 => absurd (lw_z hi1) c5)
  refine lv_iload hx hb dX5_lowest_31 (lv_at hl 4 rfl) ?_
  refine W_itel (P := p2 = 0) (a := (p0 / x5_1)) (b := (p1 / x5_1)) (J := 47) (ls9 := ls) (rest9 := []) (fun ht7 hf7 => ?_) ?_
  · refine lv_if_ne (tgt := 43) hx hb dX5_lowest_33 (by decide) (fun c6 => ?_) (fun c6 => ?_)
    · skip
      refine lv_lload_n hx hb dX5_lowest_43 rfl (lv_at hl 3 rfl) ?_
      refine lv_lload hx hb dX5_lowest_44 (lv_at hl 1 rfl) ?_
      refine lv_ldiv hx hb dX5_lowest_46 (lw_nz hi1) ?_
      exact hf7 c6
    · skip
      refine lv_lload_n hx hb dX5_lowest_36 rfl (lv_at hl 2 rfl) ?_
      refine lv_lload hx hb dX5_lowest_37 (lv_at hl 1 rfl) ?_
      refine lv_ldiv hx hb dX5_lowest_39 (lw_nz hi1) ?_
      refine lv_goto (tgt := 47) hx hb dX5_lowest_40 (by decide) ?_
      exact ht7 c6
  have e9 : fX5_lowest p0 p1 p2 = (if p2 = 0 then (p0 / x5_1) else (p1 / x5_1)) := by
    refine Eq.trans (b := fX5_lowest_L6 p0 p1 p2 (40000) 0 p0 p1) ?_ ?_
    · rfl
    · rw [← hG1]; rfl
  exact W.lret hx hb hr (fun t ht hW => ⟨_, rfl, e9.symm, ht⟩) (fun _ h9 => absurd h9 List.not_mem_nil) dX5_lowest_47

set_option maxHeartbeats 4000000 in
set_option maxRecDepth 100000 in
theorem kX5_chance (l : Launch) (D : va_G) (cI cZ cC : ClassId) (hm : Nat) (am : Nat → Nat) (om : OV) (p0 : Int32) (p1 : Int32) (hk5 : cok5 om) : Met l yX5_chance wsX5_chance ({ frames := 7, cells := 0, slots := 0, locals := 165 }) (pR D (tyv cI cZ cC) (wX5 cI cZ hm am om) [.ref hm, .int p0, .int p1]) (vp_Sl (fun r => r = fX5_chance om p0 p1)) 0 0 (fun _ => False) := by
  refine Met.ofW (cc := cX5_chance) (maxL := 3) (ret := (some .long)) (by decide) rfl ?_
  intro p e s m args below meth c s₁ B hml hv
  obtain ⟨rfl, hP, hK, hN⟩ := hv
  have hx := B.exec
  have hb := B.bytes
  have hr := B.returns
  have hts := atoms_spec (ws := wsX5_chance) B.pre
  have hown : s.vm.findClass RX5 = some m.cls := findClass_of_methodNamed B.named
  have hlocks := B.notSynchronized
  have hP : va_P D vwCl (wX5 cI cZ hm am om) s.heap := hP
  have hl := lv_entry ([.ref hm, .int p0, .int p1]) (n := 3) (Nat.le_of_ble_eq_true rfl)
  rw [lg_entry_eq]
  generalize (lg_sl ([.ref hm, .int p0, .int p1]) ++ List.replicate (3 - (lg_sl ([.ref hm, .int p0, .int p1])).length) Slot.unset).toArray = ls at hl ⊢
  have hl : lv_has ls 3 [(0, .ref hm), (1, .int p0), (2, .int p1)] := hl
  have hSF : CallFix p m c cX5_chance 3 s _ wsX5_chance RX5 := ⟨hx, hb, hml, hown, hts⟩
  refine lv_aload_n hx hb dX5_chance_0 rfl (lv_at hl 0 rfl) ?_
  refine lv_iload_n hx hb dX5_chance_1 rfl (lv_at hl 1 rfl) ?_
  refine rcVi (b := hm) (As := [.int p0]) (rest := []) hSF (kX5_isThere l D cI cZ cC hm am om p0) (cwV 1 hts gX5_chance_X5_isThere rfl rfl rfl (by decide +kernel) ⟨Nat.le_of_ble_eq_true rfl, Nat.le_of_ble_eq_true rfl⟩) (va_recv hK hP (ci := 5) (q0 := 0) rfl rfl) (hP.sub [0, 1, 2, 3, 4, 5, 6, 7, 8, 9, 10, 11] rfl) hK hN rfl rfl hl.1 (Nat.le_of_ble_eq_true rfl) dX5_chance_2 ⟨Nat.zero_le _, Nat.zero_le _⟩ ?_
  refine lv_if_ne (tgt := 26) hx hb dX5_chance_5 (by decide) (fun c1 => ?_) (fun c1 => ?_)
  · skip
    refine lv_iload_n hx hb dX5_chance_26 rfl (lv_at hl 2 rfl) ?_
    refine lv_i2l hx hb dX5_chance_27 rfl ?_
    refine lv_lconst (v := 0) hx hb dX5_chance_28 (by decide) ?_
    refine lv_lconst (v := 1) hx hb dX5_chance_29 (by decide) ?_
    refine rcSi (As := [.long p1.toInt64, .long 0, .long 1]) (rest := []) hSF (kX5_in l D cI cZ cC p1.toInt64 0 1) (va_cwS 3 hts gX5_chance_X5_in rfl rfl rfl (by decide +kernel) ⟨Nat.le_of_ble_eq_true rfl, Nat.le_of_ble_eq_true rfl⟩) (hP.sub [] rfl) hK hN rfl rfl hl.1 (Nat.le_of_ble_eq_true rfl) dX5_chance_30 ⟨Nat.zero_le _, Nat.zero_le _⟩ ?_
    refine W_itel (P := (fX5_in p1.toInt64 0 1) = 0) (a := (-1000000000000000002)) (b := (fX5_lowest ((fX5_sixtieths om p0).toInt64) ((60 * (fX5_weights om)).toInt64) p1)) (J := 60) (ls9 := ls) (rest9 := []) (fun ht3 hf3 => ?_) ?_
    · refine lv_if_eq (tgt := 57) hx hb dX5_chance_33 (by decide) (fun c2 => ?_) (fun c2 => ?_)
      · skip
        refine lv_ldc2 (v := (-1000000000000000002)) hx hb hown (hts (.constantLong RX5 159 (-1000000000000000002)) (by decide +kernel)) dX5_chance_57 ?_
        exact ht3 c2
      · skip
        refine lv_aload_n hx hb dX5_chance_36 rfl (lv_at hl 0 rfl) ?_
        refine lv_iload_n hx hb dX5_chance_37 rfl (lv_at hl 1 rfl) ?_
        refine rcVi (b := hm) (As := [.int p0]) (rest := []) hSF (kX5_sixtieths l D cI cZ cC hm am om p0) (cwV 1 hts gX5_chance_X5_sixtieths rfl rfl rfl (by decide +kernel) ⟨Nat.le_of_ble_eq_true rfl, Nat.le_of_ble_eq_true rfl⟩) (va_recv hK hP (ci := 5) (q0 := 0) rfl rfl) (hP.sub [0, 1, 2, 3, 4, 5, 6, 7, 8, 9, 10, 11] rfl) hK hN rfl rfl hl.1 (Nat.le_of_ble_eq_true rfl) dX5_chance_38 ⟨Nat.zero_le _, Nat.zero_le _⟩ ?_
        refine lv_i2l hx hb dX5_chance_41 rfl ?_
        refine lv_bipush (v := 60) hx hb dX5_chance_42 (by decide) ?_
        refine lv_aload_n hx hb dX5_chance_44 rfl (lv_at hl 0 rfl) ?_
        refine rcVi (b := hm) (As := []) (rest := [.int 60, .long (fX5_sixtieths om p0).toInt64]) hSF (kX5_weights l D cI cZ cC hm am om) (cwV 0 hts gX5_chance_X5_weights rfl rfl rfl (by decide +kernel) ⟨Nat.le_of_ble_eq_true rfl, Nat.le_of_ble_eq_true rfl⟩) (va_recv hK hP (ci := 5) (q0 := 0) rfl rfl) (hP.sub [0, 1, 2, 3, 4, 5, 6, 7, 8, 9, 10, 11] rfl) hK hN rfl rfl hl.1 (Nat.le_of_ble_eq_true rfl) dX5_chance_45 ⟨Nat.zero_le _, Nat.zero_le _⟩ ?_
        refine lv_imul hx hb dX5_chance_48 ?_
        refine lv_i2l hx hb dX5_chance_49 rfl ?_
        refine lv_iload_n hx hb dX5_chance_50 rfl (lv_at hl 2 rfl) ?_
        refine rcSl (As := [.long (fX5_sixtieths om p0).toInt64, .long (60 * (fX5_weights om)).toInt64, .int p1]) (rest := []) hSF (kX5_lowest l D cI cZ cC ((fX5_sixtieths om p0).toInt64) ((60 * (fX5_weights om)).toInt64) p1 (cw_lw hk5 _)) (va_cwS 3 hts gX5_chance_X5_lowest rfl rfl rfl (by decide +kernel) ⟨Nat.le_of_ble_eq_true rfl, Nat.le_of_ble_eq_true rfl⟩) (hP.sub [] rfl) hK hN rfl rfl hl.1 (Nat.le_of_ble_eq_true rfl) dX5_chance_51 ⟨Nat.zero_le _, Nat.zero_le _⟩ ?_
        refine lv_goto (tgt := 60) hx hb dX5_chance_54 (by decide) ?_
        exact hf3 c2
    have e9 : fX5_chance om p0 p1 = (if (fX5_in p1.toInt64 0 1) = 0 then ((-1000000000000000002) : Int64) else (fX5_lowest ((fX5_sixtieths om p0).toInt64) ((60 * (fX5_weights om)).toInt64) p1)) := by
      simp only [fX5_chance, if_neg c1]
    exact W.lret hx hb hr (fun t ht hW => ⟨_, rfl, e9.symm, ht⟩) (fun _ h9 => absurd h9 List.not_mem_nil) dX5_chance_60
  · skip
    refine lv_iload_n hx hb dX5_chance_8 rfl (lv_at hl 1 rfl) ?_
    refine lv_i2l hx hb dX5_chance_9 rfl ?_
    refine lv_ldc2 (v := 6) hx hb hown (hts (.constantLong RX5 146 6) (by decide +kernel)) dX5_chance_10 ?_
    refine lv_ldc2 (v := 7) hx hb hown (hts (.constantLong RX5 148 7) (by decide +kernel)) dX5_chance_13 ?_
    refine rcSi (As := [.long p0.toInt64, .long 6, .long 7]) (rest := []) hSF (kX5_in l D cI cZ cC p0.toInt64 6 7) (va_cwS 3 hts gX5_chance_X5_in rfl rfl rfl (by decide +kernel) ⟨Nat.le_of_ble_eq_true rfl, Nat.le_of_ble_eq_true rfl⟩) (hP.sub [] rfl) hK hN rfl rfl hl.1 (Nat.le_of_ble_eq_true rfl) dX5_chance_16 ⟨Nat.zero_le _, Nat.zero_le _⟩ ?_
    refine lv_if_ne (tgt := 26) hx hb dX5_chance_19 (by decide) (fun c4 => ?_) (fun c4 => ?_)
    · skip
      refine lv_iload_n hx hb dX5_chance_26 rfl (lv_at hl 2 rfl) ?_
      refine lv_i2l hx hb dX5_chance_27 rfl ?_
      refine lv_lconst (v := 0) hx hb dX5_chance_28 (by decide) ?_
      refine lv_lconst (v := 1) hx hb dX5_chance_29 (by decide) ?_
      refine rcSi (As := [.long p1.toInt64, .long 0, .long 1]) (rest := []) hSF (kX5_in l D cI cZ cC p1.toInt64 0 1) (va_cwS 3 hts gX5_chance_X5_in rfl rfl rfl (by decide +kernel) ⟨Nat.le_of_ble_eq_true rfl, Nat.le_of_ble_eq_true rfl⟩) (hP.sub [] rfl) hK hN rfl rfl hl.1 (Nat.le_of_ble_eq_true rfl) dX5_chance_30 ⟨Nat.zero_le _, Nat.zero_le _⟩ ?_
      refine W_itel (P := (fX5_in p1.toInt64 0 1) = 0) (a := (-1000000000000000002)) (b := (fX5_lowest ((fX5_sixtieths om p0).toInt64) ((60 * (fX5_weights om)).toInt64) p1)) (J := 60) (ls9 := ls) (rest9 := []) (fun ht6 hf6 => ?_) ?_
      · refine lv_if_eq (tgt := 57) hx hb dX5_chance_33 (by decide) (fun c5 => ?_) (fun c5 => ?_)
        · skip
          refine lv_ldc2 (v := (-1000000000000000002)) hx hb hown (hts (.constantLong RX5 159 (-1000000000000000002)) (by decide +kernel)) dX5_chance_57 ?_
          exact ht6 c5
        · skip
          refine lv_aload_n hx hb dX5_chance_36 rfl (lv_at hl 0 rfl) ?_
          refine lv_iload_n hx hb dX5_chance_37 rfl (lv_at hl 1 rfl) ?_
          refine rcVi (b := hm) (As := [.int p0]) (rest := []) hSF (kX5_sixtieths l D cI cZ cC hm am om p0) (cwV 1 hts gX5_chance_X5_sixtieths rfl rfl rfl (by decide +kernel) ⟨Nat.le_of_ble_eq_true rfl, Nat.le_of_ble_eq_true rfl⟩) (va_recv hK hP (ci := 5) (q0 := 0) rfl rfl) (hP.sub [0, 1, 2, 3, 4, 5, 6, 7, 8, 9, 10, 11] rfl) hK hN rfl rfl hl.1 (Nat.le_of_ble_eq_true rfl) dX5_chance_38 ⟨Nat.zero_le _, Nat.zero_le _⟩ ?_
          refine lv_i2l hx hb dX5_chance_41 rfl ?_
          refine lv_bipush (v := 60) hx hb dX5_chance_42 (by decide) ?_
          refine lv_aload_n hx hb dX5_chance_44 rfl (lv_at hl 0 rfl) ?_
          refine rcVi (b := hm) (As := []) (rest := [.int 60, .long (fX5_sixtieths om p0).toInt64]) hSF (kX5_weights l D cI cZ cC hm am om) (cwV 0 hts gX5_chance_X5_weights rfl rfl rfl (by decide +kernel) ⟨Nat.le_of_ble_eq_true rfl, Nat.le_of_ble_eq_true rfl⟩) (va_recv hK hP (ci := 5) (q0 := 0) rfl rfl) (hP.sub [0, 1, 2, 3, 4, 5, 6, 7, 8, 9, 10, 11] rfl) hK hN rfl rfl hl.1 (Nat.le_of_ble_eq_true rfl) dX5_chance_45 ⟨Nat.zero_le _, Nat.zero_le _⟩ ?_
          refine lv_imul hx hb dX5_chance_48 ?_
          refine lv_i2l hx hb dX5_chance_49 rfl ?_
          refine lv_iload_n hx hb dX5_chance_50 rfl (lv_at hl 2 rfl) ?_
          refine rcSl (As := [.long (fX5_sixtieths om p0).toInt64, .long (60 * (fX5_weights om)).toInt64, .int p1]) (rest := []) hSF (kX5_lowest l D cI cZ cC ((fX5_sixtieths om p0).toInt64) ((60 * (fX5_weights om)).toInt64) p1 (cw_lw hk5 _)) (va_cwS 3 hts gX5_chance_X5_lowest rfl rfl rfl (by decide +kernel) ⟨Nat.le_of_ble_eq_true rfl, Nat.le_of_ble_eq_true rfl⟩) (hP.sub [] rfl) hK hN rfl rfl hl.1 (Nat.le_of_ble_eq_true rfl) dX5_chance_51 ⟨Nat.zero_le _, Nat.zero_le _⟩ ?_
          refine lv_goto (tgt := 60) hx hb dX5_chance_54 (by decide) ?_
          exact hf6 c5
      have e9 : fX5_chance om p0 p1 = (if (fX5_in p1.toInt64 0 1) = 0 then ((-1000000000000000002) : Int64) else (fX5_lowest ((fX5_sixtieths om p0).toInt64) ((60 * (fX5_weights om)).toInt64) p1)) := by
        simp only [fX5_chance, if_pos c1, if_neg c4]
      exact W.lret hx hb hr (fun t ht hW => ⟨_, rfl, e9.symm, ht⟩) (fun _ h9 => absurd h9 List.not_mem_nil) dX5_chance_60
    · skip
      refine lv_ldc2 (v := (-1000000000000000001)) hx hb hown (hts (.constantLong RX5 150 (-1000000000000000001)) (by decide +kernel)) dX5_chance_22 ?_
      have e9 : fX5_chance om p0 p1 = (-1000000000000000001) := by
        simp only [fX5_chance, if_pos c1, if_pos c4]
      exact W.lret hx hb hr (fun t ht hW => ⟨_, rfl, e9.symm, ht⟩) (fun _ h9 => absurd h9 List.not_mem_nil) dX5_chance_25
