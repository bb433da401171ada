set_option maxHeartbeats 4000000 in
set_option maxRecDepth 100000 in
theorem kX5_stand (l : Launch) (D : va_G) (cI cZ cC : ClassId) (hm : Nat) (am : Nat → Nat) (om : OV) (p0 : Int32) (p1 : Int32) (p2 : Int32) (p3 : Int32) (p4 : Int32) (h6 : ∃ b : Nat, b < 64 ∧ om.1 0 = nI b) {sz : Nat} : Met l yX5_stand wsX5_stand ({ frames := 2, cells := 0, slots := 0, locals := 45 }) (pW D (tyv cI cZ cC) (wX5 cI cZ hm am om) sz [.ref hm, .int p0, .int p1, .int p2, .int p3, .int p4]) (va_Qi (fun r (u : OV) => r = (fX5_stand om p0 p1 p2 p3 p4).1 ∧ u = (fX5_stand om p0 p1 p2 p3 p4).2) (qW D (fun (u : OV) => wX5 cI cZ hm am u) (va_A (wX5 cI cZ hm am om) sz)) (va_A (wX5 cI cZ hm am om) sz)) 0 0 (va_A (wX5 cI cZ hm am om) sz) := by
  refine Met.ofW (cc := cX5_stand) (maxL := 6) (ret := (some .int)) (by decide) rfl ?_
  intro p e s m args below meth c s₁ B hml hv
  obtain ⟨rfl, hsz, hP, hK, hN, hD0⟩ := hv
  have hx := B.exec
  have hb := B.bytes
  have hr := B.returns
  have hts := atoms_spec (ws := wsX5_stand) B.pre
  have hown : s.vm.findClass RX5 = some m.cls := findClass_of_methodNamed B.named
  have hlocks := B.notSynchronized
  subst hsz
  have hD := hD0.self (sz := s.heap.size)
  generalize hAe : va_A (wX5 cI cZ hm am om) s.heap.size = A at hD ⊢
  have hA : ∀ q : Nat, s.heap.size ≤ q → A q := fun q h => by rw [← hAe]; exact Or.inr h
  have hS : va_S A s.heap s.heap [] := va_S.rf
  have hP : va_P D vwCl (wX5 cI cZ hm am om) s.heap := hP
  have hl := lv_entry ([.ref hm, .int p0, .int p1, .int p2, .int p3, .int p4]) (n := 6) (Nat.le_of_ble_eq_true rfl)
  rw [lg_entry_eq]
  generalize (lg_sl ([.ref hm, .int p0, .int p1, .int p2, .int p3, .int p4]) ++ List.replicate (6 - (lg_sl ([.ref hm, .int p0, .int p1, .int p2, .int p3, .int p4])).length) Slot.unset).toArray = ls at hl ⊢
  have hl : lv_has ls 6 [(0, .ref hm), (1, .int p0), (2, .int p1), (3, .int p2), (4, .int p3), (5, .int p4)] := hl
  have hSF : CallFix p m c cX5_stand 6 s _ wsX5_stand RX5 := ⟨hx, hb, hml, hown, hts⟩
  have hi5 : ∀ w ∈ wsX50, w ∈ wsX5_stand := by decide +kernel
  have hf7 : (Cond.fieldLink RX5 7 "UmbrellaVoteModel" "placeOf" "[I").before _ s = true := hts _ (by decide +kernel)
  have hf13 : (Cond.fieldLink RX5 13 "UmbrellaVoteModel" "slowOf" "[I").before _ s = true := hts _ (by decide +kernel)
  have hf16 : (Cond.fieldLink RX5 16 "UmbrellaVoteModel" "partyOf" "[I").before _ s = true := hts _ (by decide +kernel)
  have hf69 : (Cond.fieldLink RX5 69 "UmbrellaVoteModel" "holes" "I").before _ s = true := hts _ (by decide +kernel)
  have hf63 : (Cond.fieldLink RX5 63 "UmbrellaVoteModel" "there" "I").before _ s = true := hts _ (by decide +kernel)
  refine lv_iload_n hx hb dX5_stand_0 rfl (lv_at hl 1 rfl) ?_
  refine rcSi (As := [.int p0]) (rest := []) hSF (kX5_isPerson l D cI cZ cC p0) (va_cwS 1 hts gX5_stand_X5_isPerson rfl rfl rfl (by decide +kernel) ⟨Nat.le_of_ble_eq_true rfl, Nat.le_of_ble_eq_true rfl⟩) (hP.sub [] rfl) hK hN rfl rfl hl.1 (Nat.le_of_ble_eq_true rfl) dX5_stand_1 ⟨Nat.zero_le _, Nat.zero_le _⟩ ?_
  refine lv_if_eq (tgt := 14) hx hb dX5_stand_4 (by decide) (fun c1 => ?_) (fun c1 => ?_)
  · skip
    refine lv_iconst (v := (-1)) hx hb dX5_stand_14 (by decide) ?_
    have e9 : fX5_stand om p0 p1 p2 p3 p4 = (((-1) : Int32), om) := by
      simp only [fX5_stand, if_pos c1]
    exact W.iret hx hb hr (fun t ht hW => ⟨⟨_, om, rfl, ⟨by rw [e9], by rw [e9]⟩, ⟨by rw [ht]; exact hP, hD⟩⟩, hS.F ht⟩) hS.2.2 dX5_stand_15
  · skip
    refine lv_iload_n hx hb dX5_stand_7 rfl (lv_at hl 2 rfl) ?_
    refine rcSi (As := [.int p1]) (rest := []) hSF (kX5_isPlace l D cI cZ cC p1) (va_cwS 1 hts gX5_stand_X5_isPlace rfl rfl rfl (by decide +kernel) ⟨Nat.le_of_ble_eq_true rfl, Nat.le_of_ble_eq_true rfl⟩) (hP.sub [] rfl) hK hN rfl rfl hl.1 (Nat.le_of_ble_eq_true rfl) dX5_stand_8 ⟨Nat.zero_le _, Nat.zero_le _⟩ ?_
    refine lv_if_ne (tgt := 16) hx hb dX5_stand_11 (by decide) (fun c2 => ?_) (fun c2 => ?_)
    · skip
      refine lv_iload_n hx hb dX5_stand_16 rfl (lv_at hl 3 rfl) ?_
      refine lv_i2l hx hb dX5_stand_17 rfl ?_
      refine lv_lconst (v := 0) hx hb dX5_stand_18 (by decide) ?_
      refine lv_ldc2 (v := 9) hx hb hown (hts (.constantLong RX5 57 9) (by decide +kernel)) dX5_stand_19 ?_
      refine rcSi (As := [.long p2.toInt64, .long 0, .long 9]) (rest := []) hSF (kX5_in l D cI cZ cC p2.toInt64 0 9) (va_cwS 3 hts gX5_stand_X5_in rfl rfl rfl (by decide +kernel) ⟨Nat.le_of_ble_eq_true rfl, Nat.le_of_ble_eq_true rfl⟩) (hP.sub [] rfl) hK hN rfl rfl hl.1 (Nat.le_of_ble_eq_true rfl) dX5_stand_22 ⟨Nat.zero_le _, Nat.zero_le _⟩ ?_
      refine lv_if_eq (tgt := 39) hx hb dX5_stand_25 (by decide) (fun c3 => ?_) (fun c3 => ?_)
      · skip
        refine lv_bipush (v := (-2)) hx hb dX5_stand_39 (by decide) ?_
        have e9 : fX5_stand om p0 p1 p2 p3 p4 = (((-2) : Int32), om) := by
          simp only [fX5_stand, if_neg c1, if_neg c2, if_pos c3]
        exact W.iret hx hb hr (fun t ht hW => ⟨⟨_, om, rfl, ⟨by rw [e9], by rw [e9]⟩, ⟨by rw [ht]; exact hP, hD⟩⟩, hS.F ht⟩) hS.2.2 dX5_stand_41
      · skip
        refine lv_iload hx hb dX5_stand_28 (lv_at hl 4 rfl) ?_
        refine lv_i2l hx hb dX5_stand_30 rfl ?_
        refine lv_lconst (v := 0) hx hb dX5_stand_31 (by decide) ?_
        refine lv_lconst (v := 1) hx hb dX5_stand_32 (by decide) ?_
        refine rcSi (As := [.long p3.toInt64, .long 0, .long 1]) (rest := []) hSF (kX5_in l D cI cZ cC p3.toInt64 0 1) (va_cwS 3 hts gX5_stand_X5_in rfl rfl rfl (by decide +kernel) ⟨Nat.le_of_ble_eq_true rfl, Nat.le_of_ble_eq_true rfl⟩) (hP.sub [] rfl) hK hN rfl rfl hl.1 (Nat.le_of_ble_eq_true rfl) dX5_stand_33 ⟨Nat.zero_le _, Nat.zero_le _⟩ ?_
        refine lv_if_ne (tgt := 42) hx hb dX5_stand_36 (by decide) (fun c4 => ?_) (fun c4 => ?_)
        · skip
          refine lv_aload_n hx hb dX5_stand_42 rfl (lv_at hl 0 rfl) ?_
          refine va_get (D := D) (ci := 5) (v := .ref (am 1)) (C := RX5) (T := TX5) (N := 24) hx hb hts hi5 hown hK hP 0 rfl rfl 1 (by decide) hf7 (fun _ h9 => h9) rfl dX5_stand_43 ?_
          refine lv_iload_n hx hb dX5_stand_46 rfl (lv_at hl 1 rfl) ?_
          refine lv_iload_n hx hb dX5_stand_47 rfl (lv_at hl 2 rfl) ?_
          refine va_iast hx hb hK hP hD hS 1 0 rfl rfl (ip5 (by with_reducible assumption)) dX5_stand_48 (fun H locs hP hD hS => ?_)
          have hP : va_P D vwCl (wX5 cI cZ hm am (ua om 1 p0.toNatClampNeg p1)) H := hP
          have hD : va_D A (wX5 cI cZ hm am (ua om 1 p0.toNatClampNeg p1)) := hD
          refine lv_aload_n hx hb dX5_stand_49 rfl (lv_at hl 0 rfl) ?_
          refine va_get (D := D) (ci := 5) (v := .ref (am 2)) (C := RX5) (T := TX5) (N := 24) hx hb hts hi5 hown hK hP 0 rfl rfl 2 (by decide) hf13 (fun _ h9 => h9) rfl dX5_stand_50 ?_
          refine lv_iload_n hx hb dX5_stand_53 rfl (lv_at hl 1 rfl) ?_
          refine lv_iload_n hx hb dX5_stand_54 rfl (lv_at hl 3 rfl) ?_
          refine va_iast hx hb hK hP hD hS 2 0 rfl rfl (ip5 (by with_reducible assumption)) dX5_stand_55 (fun H locs hP hD hS => ?_)
          rw [sw_m_m_a2] at hP hD
          have hP : va_P D vwCl (wX5 cI cZ hm am (ua (ua om 1 p0.toNatClampNeg p1) 2 p0.toNatClampNeg p2)) H := hP
          have hD : va_D A (wX5 cI cZ hm am (ua (ua om 1 p0.toNatClampNeg p1) 2 p0.toNatClampNeg p2)) := hD
          refine lv_aload_n hx hb dX5_stand_56 rfl (lv_at hl 0 rfl) ?_
          refine va_get (D := D) (ci := 5) (v := .ref (am 3)) (C := RX5) (T := TX5) (N := 24) hx hb hts hi5 hown hK hP 0 rfl rfl 3 (by decide) hf16 (fun _ h9 => h9) rfl dX5_stand_57 ?_
          refine lv_iload_n hx hb dX5_stand_60 rfl (lv_at hl 1 rfl) ?_
          refine lv_iload hx hb dX5_stand_61 (lv_at hl 4 rfl) ?_
          refine va_iast hx hb hK hP hD hS 3 0 rfl rfl (ip5 (by with_reducible assumption)) dX5_stand_63 (fun H locs hP hD hS => ?_)
          rw [sw_m_m_a3] at hP hD
          have hP : va_P D vwCl (wX5 cI cZ hm am (ua (ua (ua om 1 p0.toNatClampNeg p1) 2 p0.toNatClampNeg p2) 3 p0.toNatClampNeg p3)) H := hP
          have hD : va_D A (wX5 cI cZ hm am (ua (ua (ua om 1 p0.toNatClampNeg p1) 2 p0.toNatClampNeg p2) 3 p0.toNatClampNeg p3)) := hD
          refine lv_aload_n hx hb dX5_stand_64 rfl (lv_at hl 0 rfl) ?_
          refine lv_iload hx hb dX5_stand_65 (lv_at hl 5 rfl) ?_
          refine W_itei (P := p4 = 0) (a := ((om.1 4) &&& ((1 <<< (p0 &&& 31)) ^^^ (-1)))) (b := ((om.1 4) ||| (1 <<< (p0 &&& 31)))) (J := 91) (ls9 := ls) (rest9 := [.ref hm]) (fun ja6 jb6 => ?_) ?_
          · refine lv_if_eq (tgt := 81) hx hb dX5_stand_67 (by decide) (fun c5 => ?_) (fun c5 => ?_)
            · skip
              refine lv_aload_n hx hb dX5_stand_81 rfl (lv_at hl 0 rfl) ?_
              refine va_get (D := D) (ci := 5) (v := .int (om.1 4)) (C := RX5) (T := TX5) (N := 24) hx hb hts hi5 hown hK hP 0 rfl rfl 4 (by decide) hf69 (fun _ h9 => h9) rfl dX5_stand_82 ?_
              refine lv_iconst (v := 1) hx hb dX5_stand_85 (by decide) ?_
              refine lv_iload_n hx hb dX5_stand_86 rfl (lv_at hl 1 rfl) ?_
              refine lv_ishl hx hb dX5_stand_87 ?_
              refine lv_iconst (v := (-1)) hx hb dX5_stand_88 (by decide) ?_
              refine lv_ixor hx hb dX5_stand_89 ?_
              refine lv_iand hx hb dX5_stand_90 ?_
              exact ja6 c5
            · skip
              refine lv_aload_n hx hb dX5_stand_70 rfl (lv_at hl 0 rfl) ?_
              refine va_get (D := D) (ci := 5) (v := .int (om.1 4)) (C := RX5) (T := TX5) (N := 24) hx hb hts hi5 hown hK hP 0 rfl rfl 4 (by decide) hf69 (fun _ h9 => h9) rfl dX5_stand_71 ?_
              refine lv_iconst (v := 1) hx hb dX5_stand_74 (by decide) ?_
              refine lv_iload_n hx hb dX5_stand_75 rfl (lv_at hl 1 rfl) ?_
              refine lv_ishl hx hb dX5_stand_76 ?_
              refine lv_ior hx hb dX5_stand_77 ?_
              refine lv_goto (tgt := 91) hx hb dX5_stand_78 (by decide) ?_
              exact jb6 c5
          refine va_put (D := D) (ci := 5) (v := .int (if p4 = 0 then ((om.1 4) &&& ((1 <<< (p0 &&& 31)) ^^^ (-1))) else ((om.1 4) ||| (1 <<< (p0 &&& 31))))) (ty := .int) (C := RX5) (T := TX5) (N := 24) hx hb hts hi5 tyX5 tyX5_ok nmX5 hown hK hP hD hS 0 rfl rfl 4 (by decide) hf69 (fun _ h9 => h9) rfl (by decide +kernel) rfl rfl (Nat.le_of_ble_eq_true rfl) dX5_stand_91 (fun H locs hP hD hS => ?_)
          rw [sw_m_m_s4] at hP hD
          have hP : va_P D vwCl (wX5 cI cZ hm am (us (ua (ua (ua om 1 p0.toNatClampNeg p1) 2 p0.toNatClampNeg p2) 3 p0.toNatClampNeg p3) 4 (if p4 = 0 then ((om.1 4) &&& ((1 <<< (p0 &&& 31)) ^^^ (-1))) else ((om.1 4) ||| (1 <<< (p0 &&& 31)))))) H := hP
          have hD : va_D A (wX5 cI cZ hm am (us (ua (ua (ua om 1 p0.toNatClampNeg p1) 2 p0.toNatClampNeg p2) 3 p0.toNatClampNeg p3) 4 (if p4 = 0 then ((om.1 4) &&& ((1 <<< (p0 &&& 31)) ^^^ (-1))) else ((om.1 4) ||| (1 <<< (p0 &&& 31)))))) := hD
          refine lv_aload_n hx hb dX5_stand_94 rfl (lv_at hl 0 rfl) ?_
          refine lv_dup hx hb dX5_stand_95 rfl ?_
          refine va_get (D := D) (ci := 5) (v := .int (om.1 0)) (C := RX5) (T := TX5) (N := 24) hx hb hts hi5 hown hK hP 0 rfl rfl 0 (by decide) hf63 (fun _ h9 => h9) rfl dX5_stand_96 ?_
          refine lv_iconst (v := 1) hx hb dX5_stand_99 (by decide) ?_
          refine lv_iload_n hx hb dX5_stand_100 rfl (lv_at hl 1 rfl) ?_
          refine lv_ishl hx hb dX5_stand_101 ?_
          refine lv_ior hx hb dX5_stand_102 ?_
          refine va_put (D := D) (ci := 5) (v := .int ((om.1 0) ||| (1 <<< (p0 &&& 31)))) (ty := .int) (C := RX5) (T := TX5) (N := 24) hx hb hts hi5 tyX5 tyX5_ok nmX5 hown hK hP hD hS 0 rfl rfl 0 (by decide) hf63 (fun _ h9 => h9) rfl (by decide +kernel) rfl rfl (Nat.le_of_ble_eq_true rfl) dX5_stand_103 (fun H locs hP hD hS => ?_)
          rw [sw_m_m_s0] at hP hD
          have hP : va_P D vwCl (wX5 cI cZ hm am (us (us (ua (ua (ua om 1 p0.toNatClampNeg p1) 2 p0.toNatClampNeg p2) 3 p0.toNatClampNeg p3) 4 (if p4 = 0 then ((om.1 4) &&& ((1 <<< (p0 &&& 31)) ^^^ (-1))) else ((om.1 4) ||| (1 <<< (p0 &&& 31))))) 0 ((om.1 0) ||| (1 <<< (p0 &&& 31))))) H := hP
          have hD : va_D A (wX5 cI cZ hm am (us (us (ua (ua (ua om 1 p0.toNatClampNeg p1) 2 p0.toNatClampNeg p2) 3 p0.toNatClampNeg p3) 4 (if p4 = 0 then ((om.1 4) &&& ((1 <<< (p0 &&& 31)) ^^^ (-1))) else ((om.1 4) ||| (1 <<< (p0 &&& 31))))) 0 ((om.1 0) ||| (1 <<< (p0 &&& 31))))) := hD
          refine lv_aload_n hx hb dX5_stand_106 rfl (lv_at hl 0 rfl) ?_
          refine va_get (D := D) (ci := 5) (v := .int ((om.1 0) ||| (1 <<< (p0 &&& 31)))) (C := RX5) (T := TX5) (N := 24) hx hb hts hi5 hown hK hP 0 rfl rfl 0 (by decide) hf63 (fun _ h9 => h9) rfl dX5_stand_107 ?_
          refine rcSi (As := [.int ((om.1 0) ||| (1 <<< (p0 &&& 31)))]) (rest := []) hSF (kX5_ones l D cI cZ cC ((om.1 0) ||| (1 <<< (p0 &&& 31))) (st_64 h6 (by with_reducible assumption))) (va_cwS 1 hts gX5_stand_X5_ones rfl rfl rfl (by decide +kernel) ⟨Nat.le_of_ble_eq_true rfl, Nat.le_of_ble_eq_true rfl⟩) (hP.sub [] rfl) hK hN rfl rfl hl.1 (Nat.le_of_ble_eq_true rfl) dX5_stand_110 ⟨Nat.zero_le _, Nat.zero_le _⟩ ?_
          have e9 : fX5_stand om p0 p1 p2 p3 p4 = ((fX5_ones ((om.1 0) ||| (1 <<< (p0 &&& 31)))), (us (us (ua (ua (ua om 1 p0.toNatClampNeg p1) 2 p0.toNatClampNeg p2) 3 p0.toNatClampNeg p3) 4 (if p4 = 0 then ((om.1 4) &&& ((1 <<< (p0 &&& 31)) ^^^ (-1))) else ((om.1 4) ||| (1 <<< (p0 &&& 31))))) 0 ((om.1 0) ||| (1 <<< (p0 &&& 31))))) := by
            simp only [fX5_stand, if_neg c1, if_neg c2, if_neg c3, if_neg c4]
          exact W.iret hx hb hr (fun t ht hW => ⟨⟨_, (us (us (ua (ua (ua om 1 p0.toNatClampNeg p1) 2 p0.toNatClampNeg p2) 3 p0.toNatClampNeg p3) 4 (if p4 = 0 then ((om.1 4) &&& ((1 <<< (p0 &&& 31)) ^^^ (-1))) else ((om.1 4) ||| (1 <<< (p0 &&& 31))))) 0 ((om.1 0) ||| (1 <<< (p0 &&& 31)))), rfl, ⟨by rw [e9], by rw [e9]⟩, ⟨by rw [ht]; exact hP, hD⟩⟩, hS.F ht⟩) hS.2.2 dX5_stand_113
        · skip
          refine lv_bipush (v := (-2)) hx hb dX5_stand_39 (by decide) ?_
          have e9 : fX5_stand om p0 p1 p2 p3 p4 = (((-2) : Int32), om) := by
            simp only [fX5_stand, if_neg c1, if_neg c2, if_neg c3, if_pos c4]
          exact W.iret hx hb hr (fun t ht hW => ⟨⟨_, om, rfl, ⟨by rw [e9], by rw [e9]⟩, ⟨by rw [ht]; exact hP, hD⟩⟩, hS.F ht⟩) hS.2.2 dX5_stand_41
    · skip
      refine lv_iconst (v := (-1)) hx hb dX5_stand_14 (by decide) ?_
      have e9 : fX5_stand om p0 p1 p2 p3 p4 = (((-1) : Int32), om) := by
        simp only [fX5_stand, if_neg c1, if_pos c2]
      exact W.iret hx hb hr (fun t ht hW => ⟨⟨_, om, rfl, ⟨by rw [e9], by rw [e9]⟩, ⟨by rw [ht]; exact hP, hD⟩⟩, hS.F ht⟩) hS.2.2 dX5_stand_15

set_option maxHeartbeats 4000000 in
set_option maxRecDepth 100000 in
theorem kX5_leave (l : Launch) (D : va_G) (cI cZ cC : ClassId) (hm : Nat) (am : Nat → Nat) (om : OV) (p0 : Int32) (h6 : ∃ b : Nat, b < 64 ∧ om.1 0 = nI b) {sz : Nat} : Met l yX5_leave wsX5_leave ({ frames := 3, cells := 0, slots := 0, locals := 66 }) (pW D (tyv cI cZ cC) (wX5 cI cZ hm am om) sz [.ref hm, .int p0]) (va_Qi (fun r (u : OV) => r = (fX5_leave om p0).1 ∧ u = (fX5_leave om p0).2) (qW D (fun (u : OV) => wX5 cI cZ hm am u) (va_A (wX5 cI cZ hm am om) sz)) (va_A (wX5 cI cZ hm am om) sz)) 0 0 (va_A (wX5 cI cZ hm am om) sz) := by
  refine Met.ofW (cc := cX5_leave) (maxL := 2) (ret := (some .int)) (by decide) rfl ?_
  intro p e s m args below meth c s₁ B hml hv
  obtain ⟨rfl, hsz, hP, hK, hN, hD0⟩ := hv
  have hx := B.exec
  have hb := B.bytes
  have hr := B.returns
  have hts := atoms_spec (ws := wsX5_leave) B.pre
  have hown : s.vm.findClass RX5 = some m.cls := findClass_of_methodNamed B.named
  have hlocks := B.notSynchronized
  subst hsz
  have hD := hD0.self (sz := s.heap.size)
  generalize hAe : va_A (wX5 cI cZ hm am om) s.heap.size = A at hD ⊢
  have hA : ∀ q : Nat, s.heap.size ≤ q → A q := fun q h => by rw [← hAe]; exact Or.inr h
  have hS : va_S A s.heap s.heap [] := va_S.rf
  have hP : va_P D vwCl (wX5 cI cZ hm am om) s.heap := hP
  have hl := lv_entry ([.ref hm, .int p0]) (n := 2) (Nat.le_of_ble_eq_true rfl)
  rw [lg_entry_eq]
  generalize (lg_sl ([.ref hm, .int p0]) ++ List.replicate (2 - (lg_sl ([.ref hm, .int p0])).length) Slot.unset).toArray = ls at hl ⊢
  have hl : lv_has ls 2 [(0, .ref hm), (1, .int p0)] := hl
  have hSF : CallFix p m c cX5_leave 2 s _ wsX5_leave RX5 := ⟨hx, hb, hml, hown, hts⟩
  have hi5 : ∀ w ∈ wsX50, w ∈ wsX5_leave := by decide +kernel
  have hf63 : (Cond.fieldLink RX5 63 "UmbrellaVoteModel" "there" "I").before _ s = true := hts _ (by decide +kernel)
  refine lv_aload_n hx hb dX5_leave_0 rfl (lv_at hl 0 rfl) ?_
  refine lv_iload_n hx hb dX5_leave_1 rfl (lv_at hl 1 rfl) ?_
  refine rcVi (b := hm) (As := [.int p0]) (rest := []) hSF (kX5_isThere l D cI cZ cC hm am om p0) (cwV 1 hts gX5_leave_X5_isThere rfl rfl rfl (by decide +kernel) ⟨Nat.le_of_ble_eq_true rfl, Nat.le_of_ble_eq_true rfl⟩) (va_recv hK hP (ci := 5) (q0 := 0) rfl rfl) (hP.sub [0, 1, 2, 3, 4, 5, 6, 7, 8, 9, 10, 11] rfl) hK hN rfl rfl hl.1 (Nat.le_of_ble_eq_true rfl) dX5_leave_2 ⟨Nat.zero_le _, Nat.zero_le _⟩ ?_
  refine lv_if_ne (tgt := 10) hx hb dX5_leave_5 (by decide) (fun c1 => ?_) (fun c1 => ?_)
  · skip
    refine lv_aload_n hx hb dX5_leave_10 rfl (lv_at hl 0 rfl) ?_
    refine lv_dup hx hb dX5_leave_11 rfl ?_
    refine va_get (D := D) (ci := 5) (v := .int (om.1 0)) (C := RX5) (T := TX5) (N := 24) hx hb hts hi5 hown hK hP 0 rfl rfl 0 (by decide) hf63 (fun _ h9 => h9) rfl dX5_leave_12 ?_
    refine lv_iconst (v := 1) hx hb dX5_leave_15 (by decide) ?_
    refine lv_iload_n hx hb dX5_leave_16 rfl (lv_at hl 1 rfl) ?_
    refine lv_ishl hx hb dX5_leave_17 ?_
    refine lv_iconst (v := (-1)) hx hb dX5_leave_18 (by decide) ?_
    refine lv_ixor hx hb dX5_leave_19 ?_
    refine lv_iand hx hb dX5_leave_20 ?_
    refine va_put (D := D) (ci := 5) (v := .int ((om.1 0) &&& ((1 <<< (p0 &&& 31)) ^^^ (-1)))) (ty := .int) (C := RX5) (T := TX5) (N := 24) hx hb hts hi5 tyX5 tyX5_ok nmX5 hown hK hP hD hS 0 rfl rfl 0 (by decide) hf63 (fun _ h9 => h9) rfl (by decide +kernel) rfl rfl (Nat.le_of_ble_eq_true rfl) dX5_leave_21 (fun H locs hP hD hS => ?_)
    have hP : va_P D vwCl (wX5 cI cZ hm am (us om 0 ((om.1 0) &&& ((1 <<< (p0 &&& 31)) ^^^ (-1))))) H := hP
    have hD : va_D A (wX5 cI cZ hm am (us om 0 ((om.1 0) &&& ((1 <<< (p0 &&& 31)) ^^^ (-1))))) := hD
    refine lv_aload_n hx hb dX5_leave_24 rfl (lv_at hl 0 rfl) ?_
    refine va_get (D := D) (ci := 5) (v := .int ((om.1 0) &&& ((1 <<< (p0 &&& 31)) ^^^ (-1)))) (C := RX5) (T := TX5) (N := 24) hx hb hts hi5 hown hK hP 0 rfl rfl 0 (by decide) hf63 (fun _ h9 => h9) rfl dX5_leave_25 ?_
    refine rcSi (As := [.int ((om.1 0) &&& ((1 <<< (p0 &&& 31)) ^^^ (-1)))]) (rest := []) hSF (kX5_ones l D cI cZ cC ((om.1 0) &&& ((1 <<< (p0 &&& 31)) ^^^ (-1))) (lv_64 h6 _)) (va_cwS 1 hts gX5_leave_X5_ones rfl rfl rfl (by decide +kernel) ⟨Nat.le_of_ble_eq_true rfl, Nat.le_of_ble_eq_true rfl⟩) (hP.sub [] rfl) hK hN rfl rfl hl.1 (Nat.le_of_ble_eq_true rfl) dX5_leave_28 ⟨Nat.zero_le _, Nat.zero_le _⟩ ?_
    have e9 : fX5_leave om p0 = ((fX5_ones ((om.1 0) &&& ((1 <<< (p0 &&& 31)) ^^^ (-1)))), (us om 0 ((om.1 0) &&& ((1 <<< (p0 &&& 31)) ^^^ (-1))))) := by
      simp only [fX5_leave, if_neg c1]
    exact W.iret hx hb hr (fun t ht hW => ⟨⟨_, (us om 0 ((om.1 0) &&& ((1 <<< (p0 &&& 31)) ^^^ (-1)))), rfl, ⟨by rw [e9], by rw [e9]⟩, ⟨by rw [ht]; exact hP, hD⟩⟩, hS.F ht⟩) hS.2.2 dX5_leave_31
  · skip
    refine lv_iconst (v := (-1)) hx hb dX5_leave_8 (by decide) ?_
    have e9 : fX5_leave om p0 = (((-1) : Int32), om) := by
      simp only [fX5_leave, if_pos c1]
    exact W.iret hx hb hr (fun t ht hW => ⟨⟨_, om, rfl, ⟨by rw [e9], by rw [e9]⟩, ⟨by rw [ht]; exact hP, hD⟩⟩, hS.F ht⟩) hS.2.2 dX5_leave_9

set_option maxHeartbeats 4000000 in
set_option maxRecDepth 100000 in
theorem kX5_weights (l : Launch) (D : va_G) (cI cZ cC : ClassId) (hm : Nat) (am : Nat → Nat) (om : OV)   : Met l yX5_weights wsX5_weights ({ frames := 0, cells := 0, slots := 0, locals := 0 }) (pR D (tyv cI cZ cC) (wX5 cI cZ hm am om) [.ref hm]) (vp_Si (fun r => r = fX5_weights om)) 0 0 (fun _ => False) := by
  refine Met.ofW (cc := cX5_weights) (maxL := 3) (ret := (some .int)) (by decide) rfl ?_
  intro p e s m args below meth c s₁ B hml hv
  obtain ⟨rfl, hP, hK, hN⟩ := hv
  have hx := B.exec
  have hb := B.bytes
  have hr := B.returns
  have hts := atoms_spec (ws := wsX5_weights) B.pre
  have hown : s.vm.findClass RX5 = some m.cls := findClass_of_methodNamed B.named
  have hlocks := B.notSynchronized
  have hP : va_P D vwCl (wX5 cI cZ hm am om) s.heap := hP
  have hl := lv_entry ([.ref hm]) (n := 3) (Nat.le_of_ble_eq_true rfl)
  rw [lg_entry_eq]
  generalize (lg_sl ([.ref hm]) ++ List.replicate (3 - (lg_sl ([.ref hm])).length) Slot.unset).toArray = ls at hl ⊢
  have hl : lv_has ls 3 [(0, .ref hm)] := hl
  have hSF : CallFix p m c cX5_weights 3 s _ wsX5_weights RX5 := ⟨hx, hb, hml, hown, hts⟩
  have hi5 : ∀ w ∈ wsX50, w ∈ wsX5_weights := by decide +kernel
  have hf19 : (Cond.fieldLink RX5 19 "UmbrellaVoteModel" "weight" "[I").before _ s = true := hts _ (by decide +kernel)
  refine lv_iconst (v := 0) hx hb dX5_weights_0 (by decide) ?_
  refine lv_istore_n (lv' := [(1, .int 0), (0, .ref hm)]) hx hb dX5_weights_1 rfl hl (by decide) rfl (fun ls hl => ?_)
  refine lv_iconst (v := 0) hx hb dX5_weights_2 (by decide) ?_
  refine lv_istore_n (lv' := [(2, .int 0), (1, .int 0), (0, .ref hm)]) hx hb dX5_weights_3 rfl hl (by decide) rfl (fun ls hl => ?_)
  refine W_lpR (10) (fun k9 ls9 => lv_has ls9 3 [(2, .int (nI k9)), (1, .int (fX5_weights_L4 om 0 k9)), (0, .ref hm)]) (lv_sub hl [0, 1, 2] rfl) ?_ ?_
  · intro k1 ls hk1 hl ih1
    generalize hs1 : fX5_weights_L4 om 0 k1 = y1 at hl
    obtain ⟨x1_1, en1⟩ : ∃ z, z = y1 := ⟨_, rfl⟩
    subst en1
    refine lv_iload_n hx hb dX5_weights_4 rfl (lv_at hl 0 rfl) ?_
    refine lv_bipush (v := 10) hx hb dX5_weights_5 (by decide) ?_
    refine lv_icmp_ge (tgt := 25) hx hb dX5_weights_7 (by decide) (fun c2 => absurd c2 (nI_ge hk1 (by decide))) (fun c2 => ?_)
    refine lv_iload_n hx hb dX5_weights_10 rfl (lv_at hl 1 rfl) ?_
    refine lv_aload_n hx hb dX5_weights_11 rfl (lv_at hl 2 rfl) ?_
    refine va_get (D := D) (ci := 5) (v := .ref (am 8)) (C := RX5) (T := TX5) (N := 24) hx hb hts hi5 hown hK hP 0 rfl rfl 8 (by decide) hf19 (fun _ h9 => h9) rfl dX5_weights_12 ?_
    refine lv_iload_n hx hb dX5_weights_15 rfl (lv_at hl 0 rfl) ?_
    refine va_iald (f := (om.2 8)) hx hb hK hP 4 0 rfl rfl (vp_in_nI (Nat.lt_of_lt_of_le hk1 (by decide)) (by decide)) dX5_weights_16 ?_
    refine lv_iadd hx hb dX5_weights_17 ?_
    refine lv_istore_n (lv' := [(1, .int (x1_1 + ((om.2 8) (nI k1).toNatClampNeg))), (2, .int (nI k1)), (0, .ref hm)]) hx hb dX5_weights_18 rfl hl (by decide) rfl (fun ls hl => ?_)
    refine lv_iinc (v := ((nI k1) + 1)) (lv' := [(2, .int ((nI k1) + 1)), (1, .int (x1_1 + ((om.2 8) (nI k1).toNatClampNeg))), (0, .ref hm)]) hx hb dX5_weights_19 hl (k := 1) rfl rfl (by decide) rfl (fun ls hl => ?_)
    refine lv_goto (tgt := 4) hx hb dX5_weights_22 (by decide) ?_
    have e8 : fX5_weights_L4s om k1 x1_1 = (x1_1 + ((om.2 8) (nI k1).toNatClampNeg)) := by
      rfl
    have e7 : fX5_weights_L4 om 0 (k1 + 1) = (x1_1 + ((om.2 8) (nI k1).toNatClampNeg)) := by
      show fX5_weights_L4s om k1 (fX5_weights_L4 om 0 k1) = _
      rw [hs1]; exact e8
    have hl9 : lv_has ls 3 [(2, .int (nI (k1 + 1))), (1, .int (fX5_weights_L4 om 0 (k1 + 1))), (0, .ref hm)] := by
      rw [nI_succ, e7]; exact lv_sub hl [0, 1, 2] rfl
    exact ih1 ls hl9
  intro ls hl
  refine lv_iload_n hx hb dX5_weights_4 rfl (lv_at hl 0 rfl) ?_
  refine lv_bipush (v := 10) hx hb dX5_weights_5 (by decide) ?_
  refine lv_icmp_ge (tgt := 25) hx hb dX5_weights_7 (by decide) (fun c3 => ?_) (fun c3 => absurd (nI_le (Nat.le_refl _) (by decide)) c3)
  refine lv_iload_n hx hb dX5_weights_25 rfl (lv_at hl 1 rfl) ?_
  have e9 : fX5_weights om = (fX5_weights_L4 om 0 (10)) := by
    rfl
  exact W.iret hx hb hr (fun t ht hW => ⟨_, rfl, e9.symm, ht⟩) (fun _ h9 => absurd h9 List.not_mem_nil) dX5_weights_26

set_option maxHeartbeats 4000000 in
set_option maxRecDepth 100000 in
theorem kX5_weight (l : Launch) (D : va_G) (cI cZ cC : ClassId) (hm : Nat) (am : Nat → Nat) (om : OV) (p0 : Int32) (p1 : Int32)  {sz : Nat} : Met l yX5_weight wsX5_weight ({ frames := 2, cells := 0, slots := 0, locals := 45 }) (pW D (tyv cI cZ cC) (wX5 cI cZ hm am om) sz [.ref hm, .int p0, .int p1]) (va_Qi (fun r (u : OV) => r = (fX5_weight om p0 p1).1 ∧ u = (fX5_weight om p0 p1).2) (qW D (fun (u : OV) => wX5 cI cZ hm am u) (va_A (wX5 cI cZ hm am om) sz)) (va_A (wX5 cI cZ hm am om) sz)) 0 0 (va_A (wX5 cI cZ hm am om) sz) := by
  refine Met.ofW (cc := cX5_weight) (maxL := 4) (ret := (some .int)) (by decide) rfl ?_
  intro p e s m args below meth c s₁ B hml hv
  obtain ⟨rfl, hsz, hP, hK, hN, hD0⟩ := hv
  have hx := B.exec
  have hb := B.bytes
  have hr := B.returns
  have hts := atoms_spec (ws := wsX5_weight) B.pre
  have hown : s.vm.findClass RX5 = some m.cls := findClass_of_methodNamed B.named
  have hlocks := B.notSynchronized
  subst hsz
  have hD := hD0.self (sz := s.heap.size)
  generalize hAe : va_A (wX5 cI cZ hm am om) s.heap.size = A at hD ⊢
  have hA : ∀ q : Nat, s.heap.size ≤ q → A q := fun q h => by rw [← hAe]; exact Or.inr h
  have hS : va_S A s.heap s.heap [] := va_S.rf
  have hP : va_P D vwCl (wX5 cI cZ hm am om) s.heap := hP
  have hl := lv_entry ([.ref hm, .int p0, .int p1]) (n := 4) (Nat.le_of_ble_eq_true rfl)
  rw [lg_entry_eq]
  generalize (lg_sl ([.ref hm, .int p0, .int p1]) ++ List.replicate (4 - (lg_sl ([.ref hm, .int p0, .int p1])).length) Slot.unset).toArray = ls at hl ⊢
  have hl : lv_has ls 4 [(0, .ref hm), (1, .int p0), (2, .int p1)] := hl
  have hSF : CallFix p m c cX5_weight 4 s _ wsX5_weight RX5 := ⟨hx, hb, hml, hown, hts⟩
  have hi5 : ∀ w ∈ wsX50, w ∈ wsX5_weight := by decide +kernel
  have hf19 : (Cond.fieldLink RX5 19 "UmbrellaVoteModel" "weight" "[I").before _ s = true := hts _ (by decide +kernel)
  refine lv_iload_n hx hb dX5_weight_0 rfl (lv_at hl 1 rfl) ?_
  refine rcSi (As := [.int p0]) (rest := []) hSF (kX5_isPlace l D cI cZ cC p0) (va_cwS 1 hts gX5_weight_X5_isPlace rfl rfl rfl (by decide +kernel) ⟨Nat.le_of_ble_eq_true rfl, Nat.le_of_ble_eq_true rfl⟩) (hP.sub [] rfl) hK hN rfl rfl hl.1 (Nat.le_of_ble_eq_true rfl) dX5_weight_1 ⟨Nat.zero_le _, Nat.zero_le _⟩ ?_
  refine lv_if_ne (tgt := 9) hx hb dX5_weight_4 (by decide) (fun c1 => ?_) (fun c1 => ?_)
  · skip
    refine lv_iload_n hx hb dX5_weight_9 rfl (lv_at hl 2 rfl) ?_
    refine lv_i2l hx hb dX5_weight_10 rfl ?_
    refine lv_lconst (v := 0) hx hb dX5_weight_11 (by decide) ?_
    refine lv_ldc2 (v := 9) hx hb hown (hts (.constantLong RX5 57 9) (by decide +kernel)) dX5_weight_12 ?_
    refine rcSi (As := [.long p1.toInt64, .long 0, .long 9]) (rest := []) hSF (kX5_in l D cI cZ cC p1.toInt64 0 9) (va_cwS 3 hts gX5_weight_X5_in rfl rfl rfl (by decide +kernel) ⟨Nat.le_of_ble_eq_true rfl, Nat.le_of_ble_eq_true rfl⟩) (hP.sub [] rfl) hK hN rfl rfl hl.1 (Nat.le_of_ble_eq_true rfl) dX5_weight_15 ⟨Nat.zero_le _, Nat.zero_le _⟩ ?_
    refine lv_if_eq (tgt := 38) hx hb dX5_weight_18 (by decide) (fun c2 => ?_) (fun c2 => ?_)
    · skip
      refine lv_bipush (v := (-2)) hx hb dX5_weight_38 (by decide) ?_
      have e9 : fX5_weight om p0 p1 = (((-2) : Int32), om) := by
        simp only [fX5_weight, if_neg c1, if_pos c2]
      exact W.iret hx hb hr (fun t ht hW => ⟨⟨_, om, rfl, ⟨by rw [e9], by rw [e9]⟩, ⟨by rw [ht]; exact hP, hD⟩⟩, hS.F ht⟩) hS.2.2 dX5_weight_40
    · skip
      refine lv_aload_n hx hb dX5_weight_21 rfl (lv_at hl 0 rfl) ?_
      refine rcVi (b := hm) (As := []) (rest := []) hSF (kX5_weights l D cI cZ cC hm am om) (cwV 0 hts gX5_weight_X5_weights rfl rfl rfl (by decide +kernel) ⟨Nat.le_of_ble_eq_true rfl, Nat.le_of_ble_eq_true rfl⟩) (va_recv hK hP (ci := 5) (q0 := 0) rfl rfl) (hP.sub [0, 1, 2, 3, 4, 5, 6, 7, 8, 9, 10, 11] rfl) hK hN rfl rfl hl.1 (Nat.le_of_ble_eq_true rfl) dX5_weight_22 ⟨Nat.zero_le _, Nat.zero_le _⟩ ?_
      refine lv_aload_n hx hb dX5_weight_25 rfl (lv_at hl 0 rfl) ?_
      refine va_get (D := D) (ci := 5) (v := .ref (am 8)) (C := RX5) (T := TX5) (N := 24) hx hb hts hi5 hown hK hP 0 rfl rfl 8 (by decide) hf19 (fun _ h9 => h9) rfl dX5_weight_26 ?_
      refine lv_iload_n hx hb dX5_weight_29 rfl (lv_at hl 1 rfl) ?_
      refine va_iald (f := (om.2 8)) hx hb hK hP 4 0 rfl rfl (ip10 (by with_reducible assumption)) dX5_weight_30 ?_
      refine lv_isub hx hb dX5_weight_31 ?_
      refine lv_iload_n hx hb dX5_weight_32 rfl (lv_at hl 2 rfl) ?_
      refine lv_iadd hx hb dX5_weight_33 ?_
      refine lv_iconst (v := 1) hx hb dX5_weight_34 (by decide) ?_
      refine lv_icmp_ge (tgt := 41) hx hb dX5_weight_35 (by decide) (fun c3 => ?_) (fun c3 => ?_)
      · skip
        refine lv_aload_n hx hb dX5_weight_41 rfl (lv_at hl 0 rfl) ?_
        refine va_get (D := D) (ci := 5) (v := .ref (am 8)) (C := RX5) (T := TX5) (N := 24) hx hb hts hi5 hown hK hP 0 rfl rfl 8 (by decide) hf19 (fun _ h9 => h9) rfl dX5_weight_42 ?_
        refine lv_iload_n hx hb dX5_weight_45 rfl (lv_at hl 1 rfl) ?_
        refine va_iald (f := (om.2 8)) hx hb hK hP 4 0 rfl rfl (ip10 (by with_reducible assumption)) dX5_weight_46 ?_
        refine lv_istore_n (lv' := [(3, .int ((om.2 8) p0.toNatClampNeg)), (0, .ref hm), (1, .int p0), (2, .int p1)]) hx hb dX5_weight_47 rfl hl (by decide) rfl (fun ls hl => ?_)
        refine lv_aload_n hx hb dX5_weight_48 rfl (lv_at hl 1 rfl) ?_
        refine va_get (D := D) (ci := 5) (v := .ref (am 8)) (C := RX5) (T := TX5) (N := 24) hx hb hts hi5 hown hK hP 0 rfl rfl 8 (by decide) hf19 (fun _ h9 => h9) rfl dX5_weight_49 ?_
        refine lv_iload_n hx hb dX5_weight_52 rfl (lv_at hl 2 rfl) ?_
        refine lv_iload_n hx hb dX5_weight_53 rfl (lv_at hl 3 rfl) ?_
        refine va_iast hx hb hK hP hD hS 4 0 rfl rfl (ip10 (by with_reducible assumption)) dX5_weight_54 (fun H locs hP hD hS => ?_)
        have hP : va_P D vwCl (wX5 cI cZ hm am (ua om 8 p0.toNatClampNeg p1)) H := hP
        have hD : va_D A (wX5 cI cZ hm am (ua om 8 p0.toNatClampNeg p1)) := hD
        refine lv_iload_n hx hb dX5_weight_55 rfl (lv_at hl 0 rfl) ?_
        have e9 : fX5_weight om p0 p1 = (((om.2 8) p0.toNatClampNeg), (ua om 8 p0.toNatClampNeg p1)) := by
          simp only [fX5_weight, if_neg c1, if_neg c2, if_pos c3]
        exact W.iret hx hb hr (fun t ht hW => ⟨⟨_, (ua om 8 p0.toNatClampNeg p1), rfl, ⟨by rw [e9], by rw [e9]⟩, ⟨by rw [ht]; exact hP, hD⟩⟩, hS.F ht⟩) hS.2.2 dX5_weight_56
      · skip
        refine lv_bipush (v := (-2)) hx hb dX5_weight_38 (by decide) ?_
        have e9 : fX5_weight om p0 p1 = (((-2) : Int32), om) := by
          simp only [fX5_weight, if_neg c1, if_neg c2, if_neg c3]
        exact W.iret hx hb hr (fun t ht hW => ⟨⟨_, om, rfl, ⟨by rw [e9], by rw [e9]⟩, ⟨by rw [ht]; exact hP, hD⟩⟩, hS.F ht⟩) hS.2.2 dX5_weight_40
  · skip
    refine lv_iconst (v := (-1)) hx hb dX5_weight_7 (by decide) ?_
    have e9 : fX5_weight om p0 p1 = (((-1) : Int32), om) := by
      simp only [fX5_weight, if_pos c1]
    exact W.iret hx hb hr (fun t ht hW => ⟨⟨_, om, rfl, ⟨by rw [e9], by rw [e9]⟩, ⟨by rw [ht]; exact hP, hD⟩⟩, hS.F ht⟩) hS.2.2 dX5_weight_8

set_option maxHeartbeats 4000000 in
set_option maxRecDepth 100000 in
theorem kX5_sixtieths (l : Launch) (D : va_G) (cI cZ cC : ClassId) (hm : Nat) (am : Nat → Nat) (om : OV) (p0 : Int32)  : Met l yX5_sixtieths wsX5_sixtieths ({ frames := 6, cells := 0, slots := 0, locals := 138 }) (pR D (tyv cI cZ cC) (wX5 cI cZ hm am om) [.ref hm, .int p0]) (vp_Si (fun r => r = fX5_sixtieths om p0)) 0 0 (fun _ => False) := by
  refine Met.ofW (cc := cX5_sixtieths) (maxL := 8) (ret := (some .int)) (by decide) rfl ?_
  intro p e s m args below meth c s₁ B hml hv
  obtain ⟨rfl, hP, hK, hN⟩ := hv
  have hx := B.exec
  have hb := B.bytes
  have hr := B.returns
  have hts := atoms_spec (ws := wsX5_sixtieths) B.pre
  have hown : s.vm.findClass RX5 = some m.cls := findClass_of_methodNamed B.named
  have hlocks := B.notSynchronized
  have hP : va_P D vwCl (wX5 cI cZ hm am om) s.heap := hP
  have hl := lv_entry ([.ref hm, .int p0]) (n := 8) (Nat.le_of_ble_eq_true rfl)
  rw [lg_entry_eq]
  generalize (lg_sl ([.ref hm, .int p0]) ++ List.replicate (8 - (lg_sl ([.ref hm, .int p0])).length) Slot.unset).toArray = ls at hl ⊢
  have hl : lv_has ls 8 [(0, .ref hm), (1, .int p0)] := hl
  have hSF : CallFix p m c cX5_sixtieths 8 s _ wsX5_sixtieths RX5 := ⟨hx, hb, hml, hown, hts⟩
  have hi5 : ∀ w ∈ wsX50, w ∈ wsX5_sixtieths := by decide +kernel
  have hf16 : (Cond.fieldLink RX5 16 "UmbrellaVoteModel" "partyOf" "[I").before _ s = true := hts _ (by decide +kernel)
  have hf19 : (Cond.fieldLink RX5 19 "UmbrellaVoteModel" "weight" "[I").before _ s = true := hts _ (by decide +kernel)
  refine lv_iconst (v := 0) hx hb dX5_sixtieths_0 (by decide) ?_
  refine lv_istore_n (lv' := [(2, .int 0), (0, .ref hm), (1, .int p0)]) hx hb dX5_sixtieths_1 rfl hl (by decide) rfl (fun ls hl => ?_)
  refine lv_iconst (v := 0) hx hb dX5_sixtieths_2 (by decide) ?_
  refine lv_istore_n (lv' := [(3, .int 0), (2, .int 0), (0, .ref hm), (1, .int p0)]) hx hb dX5_sixtieths_3 rfl hl (by decide) rfl (fun ls hl => ?_)
  refine W_lpR (10) (fun k9 ls9 => lv_has ls9 8 [(3, .int (nI k9)), (2, .int (fX5_sixtieths_L4 om p0 0 k9)), (0, .ref hm), (1, .int p0)]) (lv_sub hl [0, 1, 2, 3] rfl) ?_ ?_
  · intro k1 ls hk1 hl ih1
    generalize hs1 : fX5_sixtieths_L4 om p0 0 k1 = y1 at hl
    obtain ⟨x2_1, en1⟩ : ∃ z, z = y1 := ⟨_, rfl⟩
    subst en1
    refine lv_iload_n hx hb dX5_sixtieths_4 rfl (lv_at hl 0 rfl) ?_
    refine lv_bipush (v := 10) hx hb dX5_sixtieths_5 (by decide) ?_
    refine lv_icmp_ge (tgt := 134) hx hb dX5_sixtieths_7 (by decide) (fun c2 => absurd c2 (nI_ge hk1 (by decide))) (fun c2 => ?_)
    refine lv_aload_n hx hb dX5_sixtieths_10 rfl (lv_at hl 2 rfl) ?_
    refine lv_iload_n hx hb dX5_sixtieths_11 rfl (lv_at hl 0 rfl) ?_
    refine rcVi (b := hm) (As := [.int (nI k1)]) (rest := []) hSF (kX5_rulersBy l D cI cZ cC hm am om (nI k1)) (cwV 1 hts gX5_sixtieths_X5_rulersBy rfl rfl rfl (by decide +kernel) ⟨Nat.le_of_ble_eq_true rfl, Nat.le_of_ble_eq_true rfl⟩) (va_recv hK hP (ci := 5) (q0 := 0) rfl rfl) (hP.sub [0, 1, 2, 3, 4, 5, 6, 7, 8, 9, 10, 11] rfl) hK hN rfl rfl hl.1 (Nat.le_of_ble_eq_true rfl) dX5_sixtieths_12 ⟨Nat.zero_le _, Nat.zero_le _⟩ ?_
    refine lv_istore (lv' := [(4, .int (fX5_rulersBy om (nI k1))), (3, .int (nI k1)), (2, .int x2_1), (0, .ref hm), (1, .int p0)]) hx hb dX5_sixtieths_15 hl (by decide) rfl (fun ls hl => ?_)
    refine lv_iconst (v := 0) hx hb dX5_sixtieths_17 (by decide) ?_
    refine lv_istore (lv' := [(5, .int 0), (4, .int (fX5_rulersBy om (nI k1))), (3, .int (nI k1)), (2, .int x2_1), (0, .ref hm), (1, .int p0)]) hx hb dX5_sixtieths_18 hl (by decide) rfl (fun ls hl => ?_)
    refine lv_iconst (v := 0) hx hb dX5_sixtieths_20 (by decide) ?_
    refine lv_istore (lv' := [(6, .int 0), (5, .int 0), (4, .int (fX5_rulersBy om (nI k1))), (3, .int (nI k1)), (2, .int x2_1), (0, .ref hm), (1, .int p0)]) hx hb dX5_sixtieths_21 hl (by decide) rfl (fun ls hl => ?_)
    refine W_lpR (6) (fun k9 ls9 => lv_has ls9 8 [(6, .int (nI k9)), (5, .int (fX5_sixtieths_L23 om p0 k1 0 k9)), (4, .int (fX5_rulersBy om (nI k1))), (3, .int (nI k1)), (2, .int x2_1), (0, .ref hm), (1, .int p0)]) (lv_sub hl [0, 1, 2, 3, 4, 5, 6] rfl) ?_ ?_
    · intro k3 ls hk3 hl ih3
      generalize hs3 : fX5_sixtieths_L23 om p0 k1 0 k3 = y3 at hl
      obtain ⟨x5_3, en3⟩ : ∃ z, z = y3 := ⟨_, rfl⟩
      subst en3
      refine lv_iload hx hb dX5_sixtieths_23 (lv_at hl 0 rfl) ?_
      refine lv_bipush (v := 6) hx hb dX5_sixtieths_25 (by decide) ?_
      refine lv_icmp_ge (tgt := 98) hx hb dX5_sixtieths_27 (by decide) (fun c4 => absurd c4 (nI_ge hk3 (by decide))) (fun c4 => ?_)
      refine lv_iload_n hx hb dX5_sixtieths_30 rfl (lv_at hl 6 rfl) ?_
      refine lv_bipush (v := 6) hx hb dX5_sixtieths_31 (by decide) ?_
      refine W_itei (P := 6 ≤ p0) (a := (if ((om.2 3) (nI k3).toNatClampNeg) = (p0 - 6) then (1 : Int32) else 0)) (b := (if (nI k3) = p0 then (1 : Int32) else 0)) (J := 69) (ls9 := ls) (rest9 := []) (fun ja6 jb6 => ?_) ?_
      · refine lv_icmp_ge (tgt := 50) hx hb dX5_sixtieths_33 (by decide) (fun c5 => ?_) (fun c5 => ?_)
        · skip
          refine lv_aload_n hx hb dX5_sixtieths_50 rfl (lv_at hl 5 rfl) ?_
          refine va_get (D := D) (ci := 5) (v := .ref (am 3)) (C := RX5) (T := TX5) (N := 24) hx hb hts hi5 hown hK hP 0 rfl rfl 3 (by decide) hf16 (fun _ h9 => h9) rfl dX5_sixtieths_51 ?_
          refine lv_iload hx hb dX5_sixtieths_54 (lv_at hl 0 rfl) ?_
          refine va_iald (f := (om.2 3)) hx hb hK hP 3 0 rfl rfl (vp_in_nI (Nat.lt_of_lt_of_le hk3 (by decide)) (by decide)) dX5_sixtieths_56 ?_
          refine lv_iload_n hx hb dX5_sixtieths_57 rfl (lv_at hl 6 rfl) ?_
          refine lv_bipush (v := 6) hx hb dX5_sixtieths_58 (by decide) ?_
          refine lv_isub hx hb dX5_sixtieths_60 ?_
          refine W_itei (P := ((om.2 3) (nI k3).toNatClampNeg) = (p0 - 6)) (a := 1) (b := 0) (J := 69) (ls9 := ls) (rest9 := []) (fun ja8 jb8 => ?_) ?_
          · refine lv_icmp_ne (tgt := 68) hx hb dX5_sixtieths_61 (by decide) (fun c7 => ?_) (fun c7 => ?_)
            · skip
              refine lv_iconst (v := 0) hx hb dX5_sixtieths_68 (by decide) ?_
              exact jb8 c7
            · skip
              refine lv_iconst (v := 1) hx hb dX5_sixtieths_64 (by decide) ?_
              refine lv_goto (tgt := 69) hx hb dX5_sixtieths_65 (by decide) ?_
              exact ja8 c7
          exact ja6 c5
        · skip
          refine lv_iload hx hb dX5_sixtieths_36 (lv_at hl 0 rfl) ?_
          refine lv_iload_n hx hb dX5_sixtieths_38 rfl (lv_at hl 6 rfl) ?_
          refine W_itei (P := (nI k3) = p0) (a := 1) (b := 0) (J := 69) (ls9 := ls) (rest9 := []) (fun ja10 jb10 => ?_) ?_
          · refine lv_icmp_ne (tgt := 46) hx hb dX5_sixtieths_39 (by decide) (fun c9 => ?_) (fun c9 => ?_)
            · skip
              refine lv_iconst (v := 0) hx hb dX5_sixtieths_46 (by decide) ?_
              refine lv_goto (tgt := 69) hx hb dX5_sixtieths_47 (by decide) ?_
              exact jb10 c9
            · skip
              refine lv_iconst (v := 1) hx hb dX5_sixtieths_42 (by decide) ?_
              refine lv_goto (tgt := 69) hx hb dX5_sixtieths_43 (by decide) ?_
              exact ja10 c9
          exact jb6 c5
      refine lv_topi (fun x11 ex11 => ?_)
      refine lv_istore (lv' := [(7, .int x11), (6, .int (nI k3)), (5, .int x5_3), (4, .int (fX5_rulersBy om (nI k1))), (3, .int (nI k1)), (2, .int x2_1), (0, .ref hm), (1, .int p0)]) hx hb dX5_sixtieths_69 hl (by decide) rfl (fun ls hl => ?_)
      refine lv_iload hx hb dX5_sixtieths_71 (lv_at hl 2 rfl) ?_
      refine lv_iload hx hb dX5_sixtieths_73 (lv_at hl 0 rfl) ?_
      refine W_itei (P := x11 = 0) (a := 0) (b := (((fX5_rulersBy om (nI k1)) >>> ((nI k3) &&& 31)) &&& 1)) (J := 89) (ls9 := ls) (rest9 := [.int x5_3]) (fun ja13 jb13 => ?_) ?_
      · refine lv_if_eq (tgt := 88) hx hb dX5_sixtieths_75 (by decide) (fun c12 => ?_) (fun c12 => ?_)
        · skip
          refine lv_iconst (v := 0) hx hb dX5_sixtieths_88 (by decide) ?_
          exact ja13 c12
        · skip
          refine lv_iload hx hb dX5_sixtieths_78 (lv_at hl 3 rfl) ?_
          refine lv_iload hx hb dX5_sixtieths_80 (lv_at hl 1 rfl) ?_
          refine lv_ishr hx hb dX5_sixtieths_82 ?_
          refine lv_iconst (v := 1) hx hb dX5_sixtieths_83 (by decide) ?_
          refine lv_iand hx hb dX5_sixtieths_84 ?_
          refine lv_goto (tgt := 89) hx hb dX5_sixtieths_85 (by decide) ?_
          exact jb13 c12
      refine lv_iadd hx hb dX5_sixtieths_89 ?_
      refine lv_topi (fun x14 ex14 => ?_)
      refine lv_istore (lv' := [(5, .int x14), (7, .int x11), (6, .int (nI k3)), (4, .int (fX5_rulersBy om (nI k1))), (3, .int (nI k1)), (2, .int x2_1), (0, .ref hm), (1, .int p0)]) hx hb dX5_sixtieths_90 hl (by decide) rfl (fun ls hl => ?_)
      refine lv_iinc (v := ((nI k3) + 1)) (lv' := [(6, .int ((nI k3) + 1)), (5, .int x14), (7, .int x11), (4, .int (fX5_rulersBy om (nI k1))), (3, .int (nI k1)), (2, .int x2_1), (0, .ref hm), (1, .int p0)]) hx hb dX5_sixtieths_92 hl (k := 2) rfl rfl (by decide) rfl (fun ls hl => ?_)
      refine lv_goto (tgt := 23) hx hb dX5_sixtieths_95 (by decide) ?_
      have e8 : fX5_sixtieths_L23s om p0 k1 k3 x5_3 = x14 := by
        unfold fX5_sixtieths_L23s
        rw [← ex11]
        unfold fX5_sixtieths_L23s_x11
        rw [← ex14]
        rfl
      have e7 : fX5_sixtieths_L23 om p0 k1 0 (k3 + 1) = x14 := by
        show fX5_sixtieths_L23s om p0 k1 k3 (fX5_sixtieths_L23 om p0 k1 0 k3) = _
        rw [hs3]; exact e8
      have hl9 : lv_has ls 8 [(6, .int (nI (k3 + 1))), (5, .int (fX5_sixtieths_L23 om p0 k1 0 (k3 + 1))), (4, .int (fX5_rulersBy om (nI k1))), (3, .int (nI k1)), (2, .int x2_1), (0, .ref hm), (1, .int p0)] := by
        rw [nI_succ, e7]; exact lv_sub hl [0, 1, 3, 4, 5, 6, 7] rfl
      exact ih3 ls hl9
    intro ls hl
    refine lv_iload hx hb dX5_sixtieths_23 (lv_at hl 0 rfl) ?_
    refine lv_bipush (v := 6) hx hb dX5_sixtieths_25 (by decide) ?_
    refine lv_icmp_ge (tgt := 98) hx hb dX5_sixtieths_27 (by decide) (fun c15 => ?_) (fun c15 => absurd (nI_le (Nat.le_refl _) (by decide)) c15)
    refine lv_iload_n hx hb dX5_sixtieths_98 rfl (lv_at hl 4 rfl) ?_
    refine lv_iload hx hb dX5_sixtieths_99 (lv_at hl 2 rfl) ?_
    refine W_itei (P := (fX5_rulersBy om (nI k1)) = 0) (a := 0) (b := ((((om.2 8) (nI k1).toNatClampNeg) * (fX5_sixtieths_L23 om p0 k1 0 (6))) * (60 / (fX5_ones (fX5_rulersBy om (nI k1)))))) (J := 126) (ls9 := ls) (rest9 := [.int x2_1]) (fun ja17 jb17 => ?_) ?_
    · refine lv_if_ne (tgt := 108) hx hb dX5_sixtieths_101 (by decide) (fun c16 => ?_) (fun c16 => ?_)
      · skip
        refine lv_aload_n hx hb dX5_sixtieths_108 rfl (lv_at hl 5 rfl) ?_
        refine va_get (D := D) (ci := 5) (v := .ref (am 8)) (C := RX5) (T := TX5) (N := 24) hx hb hts hi5 hown hK hP 0 rfl rfl 8 (by decide) hf19 (fun _ h9 => h9) rfl dX5_sixtieths_109 ?_
        refine lv_iload_n hx hb dX5_sixtieths_112 rfl (lv_at hl 3 rfl) ?_
        refine va_iald (f := (om.2 8)) hx hb hK hP 4 0 rfl rfl (vp_in_nI (Nat.lt_of_lt_of_le hk1 (by decide)) (by decide)) dX5_sixtieths_113 ?_
        refine lv_iload hx hb dX5_sixtieths_114 (lv_at hl 1 rfl) ?_
        refine lv_imul hx hb dX5_sixtieths_116 ?_
        refine lv_bipush (v := 60) hx hb dX5_sixtieths_117 (by decide) ?_
        refine lv_iload hx hb dX5_sixtieths_119 (lv_at hl 2 rfl) ?_
        refine rcSi (As := [.int (fX5_rulersBy om (nI k1))]) (rest := [.int 60, .int (((om.2 8) (nI k1).toNatClampNeg) * (fX5_sixtieths_L23 om p0 k1 0 (6))), .int x2_1]) hSF (kX5_ones l D cI cZ cC (fX5_rulersBy om (nI k1)) (rb64 _ _)) (va_cwS 1 hts gX5_sixtieths_X5_ones rfl rfl rfl (by decide +kernel) ⟨Nat.le_of_ble_eq_true rfl, Nat.le_of_ble_eq_true rfl⟩) (hP.sub [] rfl) hK hN rfl rfl hl.1 (Nat.le_of_ble_eq_true rfl) dX5_sixtieths_121 ⟨Nat.zero_le _, Nat.zero_le _⟩ ?_
        refine lv_idiv hx hb dX5_sixtieths_124 (ones_nz (rb64 _ _) (by with_reducible assumption)) ?_
        refine lv_imul hx hb dX5_sixtieths_125 ?_
        exact jb17 c16
      · skip
        refine lv_iconst (v := 0) hx hb dX5_sixtieths_104 (by decide) ?_
        refine lv_goto (tgt := 126) hx hb dX5_sixtieths_105 (by decide) ?_
        exact ja17 c16
    refine lv_iadd hx hb dX5_sixtieths_126 ?_
    refine lv_topi (fun x18 ex18 => ?_)
    refine lv_istore_n (lv' := [(2, .int x18), (6, .int (nI (6))), (5, .int (fX5_sixtieths_L23 om p0 k1 0 (6))), (4, .int (fX5_rulersBy om (nI k1))), (3, .int (nI k1)), (0, .ref hm), (1, .int p0)]) hx hb dX5_sixtieths_127 rfl hl (by decide) rfl (fun ls hl => ?_)
    refine lv_iinc (v := ((nI k1) + 1)) (lv' := [(3, .int ((nI k1) + 1)), (2, .int x18), (6, .int (nI (6))), (5, .int (fX5_sixtieths_L23 om p0 k1 0 (6))), (4, .int (fX5_rulersBy om (nI k1))), (0, .ref hm), (1, .int p0)]) hx hb dX5_sixtieths_128 hl (k := 4) rfl rfl (by decide) rfl (fun ls hl => ?_)
    refine lv_goto (tgt := 4) hx hb dX5_sixtieths_131 (by decide) ?_
    have e8 : fX5_sixtieths_L4s om p0 k1 x2_1 = x18 := by
      unfold fX5_sixtieths_L4s
      rw [← ex18]
      rfl
    have e7 : fX5_sixtieths_L4 om p0 0 (k1 + 1) = x18 := by
      show fX5_sixtieths_L4s om p0 k1 (fX5_sixtieths_L4 om p0 0 k1) = _
      rw [hs1]; exact e8
    have hl9 : lv_has ls 8 [(3, .int (nI (k1 + 1))), (2, .int (fX5_sixtieths_L4 om p0 0 (k1 + 1))), (0, .ref hm), (1, .int p0)] := by
      rw [nI_succ, e7]; exact lv_sub hl [0, 1, 5, 6] rfl
    exact ih1 ls hl9
  intro ls hl
  refine lv_iload_n hx hb dX5_sixtieths_4 rfl (lv_at hl 0 rfl) ?_
  refine lv_bipush (v := 10) hx hb dX5_sixtieths_5 (by decide) ?_
  refine lv_icmp_ge (tgt := 134) hx hb dX5_sixtieths_7 (by decide) (fun c19 => ?_) (fun c19 => absurd (nI_le (Nat.le_refl _) (by decide)) c19)
  refine lv_iload_n hx hb dX5_sixtieths_134 rfl (lv_at hl 1 rfl) ?_
  have e9 : fX5_sixtieths om p0 = (fX5_sixtieths_L4 om p0 0 (10)) := by
    rfl
  exact W.iret hx hb hr (fun t ht hW => ⟨_, rfl, e9.symm, ht⟩) (fun _ h9 => absurd h9 List.not_mem_nil) dX5_sixtieths_135

set_option maxHeartbeats 4000000 in
set_option maxRecDepth 100000 in
theorem kX5_lowest (l : Launch) (D : va_G) (cI cZ cC : ClassId)  (p0 : Int64) (p1 : Int64) (p2 : Int32) (h9 : ∃ a b : Nat, p0 = lN a ∧ p1 = lN b ∧ a < 40000 ∧ 0 < b ∧ b < 40000) : Met l yX5_lowest wsX5_lowest ({ frames := 0, cells := 0, slots := 0, locals := 0 }) (pR D (tyv cI cZ cC) ([]) [.long p0, .long p1, .int p2]) (vp_Sl (fun r => r = fX5_lowest p0 p1 p2)) 0 0 (fun _ => False) := by
  refine Met.ofW (cc := cX5_lowest) (maxL := 11) (ret := (some .long)) (by decide) rfl ?_
  intro p e s m args below meth c s₁ B hml hv
  obtain ⟨rfl, hP, hK, hN⟩ := hv
  have hx := B.exec
  have hb := B.bytes
  have hr := B.returns
  have hts := atoms_spec (ws := wsX5_lowest) B.pre
  have hown : s.vm.findClass RX5 = some m.cls := findClass_of_methodNamed B.named
  have hlocks := B.notSynchronized
  have hP : va_P D vwCl ([]) s.heap := hP
  have hl := lv_entry ([.long p0, .long p1, .int p2]) (n := 11) (Nat.le_of_ble_eq_true rfl)
  rw [lg_entry_eq]
  generalize (lg_sl ([.long p0, .long p1, .int p2]) ++ List.replicate (11 - (lg_sl ([.long p0, .long p1, .int p2])).length) Slot.unset).toArray = ls at hl ⊢
  have hl : lv_has ls 11 [(0, .long p0), (2, .long p1), (4, .int p2)] := hl
  have hSF : CallFix p m c cX5_lowest 11 s _ wsX5_lowest RX5 := ⟨hx, hb, hml, hown, hts⟩
  refine lv_lload_n hx hb dX5_lowest_0 rfl (lv_at hl 1 rfl) ?_
  refine lv_lstore (lv' := [(5, .long p1), (0, .long p0), (2, .long p1), (4, .int p2)]) hx hb dX5_lowest_1 hl (by decide) rfl (fun ls hl => ?_)
  refine lv_lload_n hx hb dX5_lowest_3 rfl (lv_at hl 1 rfl) ?_
  refine lv_lstore (lv' := [(7, .long p0), (5, .long p1), (0, .long p0), (2, .long p1), (4, .int p2)]) hx hb dX5_lowest_4 hl (by decide) rfl (fun ls hl => ?_)
  refine W_ltR (σ := Int64 × Int64) (40000) (fun r9 k9 x9 ls9 => lv_has ls9 11 [(7, .long x9.1), (5, .long x9.2), (0, .long p0), (2, .long p1), (4, .int p2)] ∧ fX5_lowest_L6 p0 p1 p2 r9 k9 x9.1 x9.2 = fX5_lowest_L6 p0 p1 p2 (40000) 0 p0 p1 ∧ (∃ a b : Nat, x9.2 = lN a ∧ x9.1 = lN b ∧ 0 < a ∧ a < 1000000 ∧ b < 1000000 ∧ b ≤ r9)) (p0, p1) ⟨lv_sub hl [0, 1, 2, 3, 4] rfl, rfl, (by obtain ⟨a9, b9, e9, e8, h0, h1, h2⟩ := h9; exact ⟨b9, a9, e8, e9, by omega, by omega, by omega, by omega⟩)⟩ ?_ ?_
  · intro r1 k1 y1 ls hr1 hI9 ih1
    obtain ⟨x7_1, x5_1⟩ := y1
    obtain ⟨hl, hG1, hi1⟩ := hI9
    have hG1 : fX5_lowest_L6 p0 p1 p2 (r1 + 1) k1 x7_1 x5_1 = fX5_lowest_L6 p0 p1 p2 (40000) 0 p0 p1 := hG1
    have hi1 : ∃ a b : Nat, x5_1 = lN a ∧ x7_1 = lN b ∧ 0 < a ∧ a < 1000000 ∧ b < 1000000 ∧ b ≤ (r1 + 1) := hi1
    have hl : lv_has ls 11 [(7, .long x7_1), (5, .long x5_1), (0, .long p0), (2, .long p1), (4, .int p2)] := hl
    have hk1 : k1 < 40000 := by omega
    refine lv_lload hx hb dX5_lowest_6 (lv_at hl 0 rfl) ?_
    refine lv_lconst (v := 0) hx hb dX5_lowest_8 (by decide) ?_
    refine W.lcmp hx hb dX5_lowest_9 ?_
    refine lv_if_eq (tgt := 31) hx hb dX5_lowest_10 (by decide) (fun c2 => ?_) (fun c2 => ?_)
    · skip
      refine lv_iload hx hb dX5_lowest_31 (lv_at hl 4 rfl) ?_
      refine W_itel (P := p2 = 0) (a := (p0 / x5_1)) (b := (p1 / x5_1)) (J := 47) (ls9 := ls) (rest9 := []) (fun ja4 jb4 => ?_) ?_
      · refine lv_if_ne (tgt := 43) hx hb dX5_lowest_33 (by decide) (fun c3 => ?_) (fun c3 => ?_)
        · skip
          refine lv_lload_n hx hb dX5_lowest_43 rfl (lv_at hl 3 rfl) ?_
          refine lv_lload hx hb dX5_lowest_44 (lv_at hl 1 rfl) ?_
          refine lv_ldiv hx hb dX5_lowest_46 (lw_nz hi1) ?_
          exact jb4 c3
        · skip
          refine lv_lload_n hx hb dX5_lowest_36 rfl (lv_at hl 2 rfl) ?_
          refine lv_lload hx hb dX5_lowest_37 (lv_at hl 1 rfl) ?_
          refine lv_ldiv hx hb dX5_lowest_39 (lw_nz hi1) ?_
          refine lv_goto (tgt := 47) hx hb dX5_lowest_40 (by decide) ?_
          exact ja4 c3
      have e9 : fX5_lowest p0 p1 p2 = (if p2 = 0 then (p0 / x5_1) else (p1 / x5_1)) := by
        refine Eq.trans (b := fX5_lowest_L6 p0 p1 p2 (40000) 0 p0 p1) ?_ ?_
        · rfl
        · rw [← hG1]; simp only [fX5_lowest_L6, if_pos c2]
      exact W.lret hx hb hr (fun t ht hW => ⟨_, rfl, e9.symm, ht⟩) (fun _ h9 => absurd h9 List.not_mem_nil) dX5_lowest_47
    · skip
      refine lv_lload hx hb dX5_lowest_13 (lv_at hl 1 rfl) ?_
      refine lv_lload hx hb dX5_lowest_15 (lv_at hl 0 rfl) ?_
      refine lv_lrem hx hb dX5_lowest_17 (lc_ne (by with_reducible assumption)) ?_
      refine lv_lstore (lv' := [(9, .long (x5_1 - x5_1 / x7_1 * x7_1)), (7, .long x7_1), (5, .long x5_1), (0, .long p0), (2, .long p1), (4, .int p2)]) hx hb dX5_lowest_18 hl (by decide) rfl (fun ls hl => ?_)
      refine lv_lload hx hb dX5_lowest_20 (lv_at hl 1 rfl) ?_
      refine lv_lstore (lv' := [(5, .long x7_1), (9, .long (x5_1 - x5_1 / x7_1 * x7_1)), (7, .long x7_1), (0, .long p0), (2, .long p1), (4, .int p2)]) hx hb dX5_lowest_22 hl (by decide) rfl (fun ls hl => ?_)
      refine lv_lload hx hb dX5_lowest_24 (lv_at hl 1 rfl) ?_
      refine lv_lstore (lv' := [(7, .long (x5_1 - x5_1 / x7_1 * x7_1)), (5, .long x7_1), (9, .long (x5_1 - x5_1 / x7_1 * x7_1)), (0, .long p0), (2, .long p1), (4, .int p2)]) hx hb dX5_lowest_26 hl (by decide) rfl (fun ls hl => ?_)
      refine lv_goto (tgt := 6) hx hb dX5_lowest_28 (by decide) ?_
      have hl9 : lv_has ls 11 [(7, .long (x5_1 - x5_1 / x7_1 * x7_1)), (5, .long x7_1), (0, .long p0), (2, .long p1), (4, .int p2)] := by
        exact lv_sub hl [0, 1, 3, 4, 5] rfl
      have e8 : fX5_lowest_L6 p0 p1 p2 r1 (k1 + 1) (x5_1 - x5_1 / x7_1 * x7_1) x7_1 = fX5_lowest_L6 p0 p1 p2 (40000) 0 p0 p1 := by
        rw [← hG1]
        simp only [fX5_lowest_L6, if_neg c2]
      have h7 : ∃ a b : Nat, x7_1 = lN a ∧ (x5_1 - x5_1 / x7_1 * x7_1) = lN b ∧ 0 < a ∧ a < 1000000 ∧ b < 1000000 ∧ b ≤ r1 := by
        exact lw_step hi1 (by with_reducible assumption)
      exact ih1 ((x5_1 - x5_1 / x7_1 * x7_1), x7_1) ls ⟨hl9, e8, h7⟩
  intro k1 y1 ls hB1 hI9
  obtain ⟨x7_1, x5_1⟩ := y1
  obtain ⟨hl, hG1, hi1⟩ := hI9
  have hG1 : fX5_lowest_L6 p0 p1 p2 0 k1 x7_1 x5_1 = fX5_lowest_L6 p0 p1 p2 (40000) 0 p0 p1 := hG1
  have hi1 : ∃ a b : Nat, x5_1 = lN a ∧ x7_1 = lN b ∧ 0 < a ∧ a < 1000000 ∧ b < 1000000 ∧ b ≤ 0 := hi1
  have hl : lv_has ls 11 [(7, .long x7_1), (5, .long x5_1), (0, .long p0), (2, .long p1), (4, .int p2)] := hl
  refine lv_lload hx hb dX5_lowest_6 (lv_at hl 0 rfl) ?_
  refine lv_lconst (v := 0) hx hb dX5_lowest_8 (by decide) ?_
  refine W.lcmp hx hb dX5_lowest_9 ?_
  refine lv_if_eq (tgt := 31) hx hb dX5_lowest_10 (by decide) (fun c5 => ?_) (fun c5 => absurd (lw_z hi1) c5)
  refine lv_iload hx hb dX5_lowest_31 (lv_at hl 4 rfl) ?_
  refine W_itel (P := p2 = 0) (a := (p0 / x5_1)) (b := (p1 / x5_1)) (J := 47) (ls9 := ls) (rest9 := []) (fun ja7 jb7 => ?_) ?_
  · refine lv_if_ne (tgt := 43) hx hb dX5_lowest_33 (by decide) (fun c6 => ?_) (fun c6 => ?_)
    · skip
      refine lv_lload_n hx hb dX5_lowest_43 rfl (lv_at hl 3 rfl) ?_
      refine lv_lload hx hb dX5_lowest_44 (lv_at hl 1 rfl) ?_
      refine lv_ldiv hx hb dX5_lowest_46 (lw_nz hi1) ?_
      exact jb7 c6
    · skip
      refine lv_lload_n hx hb dX5_lowest_36 rfl (lv_at hl 2 rfl) ?_
      refine lv_lload hx hb dX5_lowest_37 (lv_at hl 1 rfl) ?_
      refine lv_ldiv hx hb dX5_lowest_39 (lw_nz hi1) ?_
      refine lv_goto (tgt := 47) hx hb dX5_lowest_40 (by decide) ?_
      exact ja7 c6
  have e9 : fX5_lowest p0 p1 p2 = (if p2 = 0 then (p0 / x5_1) else (p1 / x5_1)) := by
    refine Eq.trans (b := fX5_lowest_L6 p0 p1 p2 (40000) 0 p0 p1) ?_ ?_
    · rfl
    · rw [← hG1]; rfl
  exact W.lret hx hb hr (fun t ht hW => ⟨_, rfl, e9.symm, ht⟩) (fun _ h9 => absurd h9 List.not_mem_nil) dX5_lowest_47

set_option maxHeartbeats 4000000 in
set_option maxRecDepth 100000 in
theorem kX5_chance (l : Launch) (D : va_G) (cI cZ cC : ClassId) (hm : Nat) (am : Nat → Nat) (om : OV) (p0 : Int32) (p1 : Int32) (hk5 : cok5 om) : Met l yX5_chance wsX5_chance ({ frames := 7, cells := 0, slots := 0, locals := 165 }) (pR D (tyv cI cZ cC) (wX5 cI cZ hm am om) [.ref hm, .int p0, .int p1]) (vp_Sl (fun r => r = fX5_chance om p0 p1)) 0 0 (fun _ => False) := by
  refine Met.ofW (cc := cX5_chance) (maxL := 3) (ret := (some .long)) (by decide) rfl ?_
  intro p e s m args below meth c s₁ B hml hv
  obtain ⟨rfl, hP, hK, hN⟩ := hv
  have hx := B.exec
  have hb := B.bytes
  have hr := B.returns
  have hts := atoms_spec (ws := wsX5_chance) B.pre
  have hown : s.vm.findClass RX5 = some m.cls := findClass_of_methodNamed B.named
  have hlocks := B.notSynchronized
  have hP : va_P D vwCl (wX5 cI cZ hm am om) s.heap := hP
  have hl := lv_entry ([.ref hm, .int p0, .int p1]) (n := 3) (Nat.le_of_ble_eq_true rfl)
  rw [lg_entry_eq]
  generalize (lg_sl ([.ref hm, .int p0, .int p1]) ++ List.replicate (3 - (lg_sl ([.ref hm, .int p0, .int p1])).length) Slot.unset).toArray = ls at hl ⊢
  have hl : lv_has ls 3 [(0, .ref hm), (1, .int p0), (2, .int p1)] := hl
  have hSF : CallFix p m c cX5_chance 3 s _ wsX5_chance RX5 := ⟨hx, hb, hml, hown, hts⟩
  refine lv_aload_n hx hb dX5_chance_0 rfl (lv_at hl 0 rfl) ?_
  refine lv_iload_n hx hb dX5_chance_1 rfl (lv_at hl 1 rfl) ?_
  refine rcVi (b := hm) (As := [.int p0]) (rest := []) hSF (kX5_isThere l D cI cZ cC hm am om p0) (cwV 1 hts gX5_chance_X5_isThere rfl rfl rfl (by decide +kernel) ⟨Nat.le_of_ble_eq_true rfl, Nat.le_of_ble_eq_true rfl⟩) (va_recv hK hP (ci := 5) (q0 := 0) rfl rfl) (hP.sub [0, 1, 2, 3, 4, 5, 6, 7, 8, 9, 10, 11] rfl) hK hN rfl rfl hl.1 (Nat.le_of_ble_eq_true rfl) dX5_chance_2 ⟨Nat.zero_le _, Nat.zero_le _⟩ ?_
  refine lv_if_ne (tgt := 26) hx hb dX5_chance_5 (by decide) (fun c1 => ?_) (fun c1 => ?_)
  · skip
    refine lv_iload_n hx hb dX5_chance_26 rfl (lv_at hl 2 rfl) ?_
    refine lv_i2l hx hb dX5_chance_27 rfl ?_
    refine lv_lconst (v := 0) hx hb dX5_chance_28 (by decide) ?_
    refine lv_lconst (v := 1) hx hb dX5_chance_29 (by decide) ?_
    refine rcSi (As := [.long p1.toInt64, .long 0, .long 1]) (rest := []) hSF (kX5_in l D cI cZ cC p1.toInt64 0 1) (va_cwS 3 hts gX5_chance_X5_in rfl rfl rfl (by decide +kernel) ⟨Nat.le_of_ble_eq_true rfl, Nat.le_of_ble_eq_true rfl⟩) (hP.sub [] rfl) hK hN rfl rfl hl.1 (Nat.le_of_ble_eq_true rfl) dX5_chance_30 ⟨Nat.zero_le _, Nat.zero_le _⟩ ?_
    refine W_itel (P := (fX5_in p1.toInt64 0 1) = 0) (a := (-1000000000000000002)) (b := (fX5_lowest ((fX5_sixtieths om p0).toInt64) ((60 * (fX5_weights om)).toInt64) p1)) (J := 60) (ls9 := ls) (rest9 := []) (fun ja3 jb3 => ?_) ?_
    · refine lv_if_eq (tgt := 57) hx hb dX5_chance_33 (by decide) (fun c2 => ?_) (fun c2 => ?_)
      · skip
        refine lv_ldc2 (v := (-1000000000000000002)) hx hb hown (hts (.constantLong RX5 159 (-1000000000000000002)) (by decide +kernel)) dX5_chance_57 ?_
        exact ja3 c2
      · skip
        refine lv_aload_n hx hb dX5_chance_36 rfl (lv_at hl 0 rfl) ?_
        refine lv_iload_n hx hb dX5_chance_37 rfl (lv_at hl 1 rfl) ?_
        refine rcVi (b := hm) (As := [.int p0]) (rest := []) hSF (kX5_sixtieths l D cI cZ cC hm am om p0) (cwV 1 hts gX5_chance_X5_sixtieths rfl rfl rfl (by decide +kernel) ⟨Nat.le_of_ble_eq_true rfl, Nat.le_of_ble_eq_true rfl⟩) (va_recv hK hP (ci := 5) (q0 := 0) rfl rfl) (hP.sub [0, 1, 2, 3, 4, 5, 6, 7, 8, 9, 10, 11] rfl) hK hN rfl rfl hl.1 (Nat.le_of_ble_eq_true rfl) dX5_chance_38 ⟨Nat.zero_le _, Nat.zero_le _⟩ ?_
        refine lv_i2l hx hb dX5_chance_41 rfl ?_
        refine lv_bipush (v := 60) hx hb dX5_chance_42 (by decide) ?_
        refine lv_aload_n hx hb dX5_chance_44 rfl (lv_at hl 0 rfl) ?_
        refine rcVi (b := hm) (As := []) (rest := [.int 60, .long (fX5_sixtieths om p0).toInt64]) hSF (kX5_weights l D cI cZ cC hm am om) (cwV 0 hts gX5_chance_X5_weights rfl rfl rfl (by decide +kernel) ⟨Nat.le_of_ble_eq_true rfl, Nat.le_of_ble_eq_true rfl⟩) (va_recv hK hP (ci := 5) (q0 := 0) rfl rfl) (hP.sub [0, 1, 2, 3, 4, 5, 6, 7, 8, 9, 10, 11] rfl) hK hN rfl rfl hl.1 (Nat.le_of_ble_eq_true rfl) dX5_chance_45 ⟨Nat.zero_le _, Nat.zero_le _⟩ ?_
        refine lv_imul hx hb dX5_chance_48 ?_
        refine lv_i2l hx hb dX5_chance_49 rfl ?_
        refine lv_iload_n hx hb dX5_chance_50 rfl (lv_at hl 2 rfl) ?_
        refine rcSl (As := [.long (fX5_sixtieths om p0).toInt64, .long (60 * (fX5_weights om)).toInt64, .int p1]) (rest := []) hSF (kX5_lowest l D cI cZ cC ((fX5_sixtieths om p0).toInt64) ((60 * (fX5_weights om)).toInt64) p1 (cw_lw hk5 _)) (va_cwS 3 hts gX5_chance_X5_lowest rfl rfl rfl (by decide +kernel) ⟨Nat.le_of_ble_eq_true rfl, Nat.le_of_ble_eq_true rfl⟩) (hP.sub [] rfl) hK hN rfl rfl hl.1 (Nat.le_of_ble_eq_true rfl) dX5_chance_51 ⟨Nat.zero_le _, Nat.zero_le _⟩ ?_
        refine lv_goto (tgt := 60) hx hb dX5_chance_54 (by decide) ?_
        exact jb3 c2
    have e9 : fX5_chance om p0 p1 = (if (fX5_in p1.toInt64 0 1) = 0 then ((-1000000000000000002) : Int64) else (fX5_lowest ((fX5_sixtieths om p0).toInt64) ((60 * (fX5_weights om)).toInt64) p1)) := by
      simp only [fX5_chance, if_neg c1]
    exact W.lret hx hb hr (fun t ht hW => ⟨_, rfl, e9.symm, ht⟩) (fun _ h9 => absurd h9 List.not_mem_nil) dX5_chance_60
  · skip
    refine lv_iload_n hx hb dX5_chance_8 rfl (lv_at hl 1 rfl) ?_
    refine lv_i2l hx hb dX5_chance_9 rfl ?_
    refine lv_ldc2 (v := 6) hx hb hown (hts (.constantLong RX5 146 6) (by decide +kernel)) dX5_chance_10 ?_
    refine lv_ldc2 (v := 7) hx hb hown (hts (.constantLong RX5 148 7) (by decide +kernel)) dX5_chance_13 ?_
    refine rcSi (As := [.long p0.toInt64, .long 6, .long 7]) (rest := []) hSF (kX5_in l D cI cZ cC p0.toInt64 6 7) (va_cwS 3 hts gX5_chance_X5_in rfl rfl rfl (by decide +kernel) ⟨Nat.le_of_ble_eq_true rfl, Nat.le_of_ble_eq_true rfl⟩) (hP.sub [] rfl) hK hN rfl rfl hl.1 (Nat.le_of_ble_eq_true rfl) dX5_chance_16 ⟨Nat.zero_le _, Nat.zero_le _⟩ ?_
    refine lv_if_ne (tgt := 26) hx hb dX5_chance_19 (by decide) (fun c4 => ?_) (fun c4 => ?_)
    · skip
      refine lv_iload_n hx hb dX5_chance_26 rfl (lv_at hl 2 rfl) ?_
      refine lv_i2l hx hb dX5_chance_27 rfl ?_
      refine lv_lconst (v := 0) hx hb dX5_chance_28 (by decide) ?_
      refine lv_lconst (v := 1) hx hb dX5_chance_29 (by decide) ?_
      refine rcSi (As := [.long p1.toInt64, .long 0, .long 1]) (rest := []) hSF (kX5_in l D cI cZ cC p1.toInt64 0 1) (va_cwS 3 hts gX5_chance_X5_in rfl rfl rfl (by decide +kernel) ⟨Nat.le_of_ble_eq_true rfl, Nat.le_of_ble_eq_true rfl⟩) (hP.sub [] rfl) hK hN rfl rfl hl.1 (Nat.le_of_ble_eq_true rfl) dX5_chance_30 ⟨Nat.zero_le _, Nat.zero_le _⟩ ?_
      refine W_itel (P := (fX5_in p1.toInt64 0 1) = 0) (a := (-1000000000000000002)) (b := (fX5_lowest ((fX5_sixtieths om p0).toInt64) ((60 * (fX5_weights om)).toInt64) p1)) (J := 60) (ls9 := ls) (rest9 := []) (fun ja6 jb6 => ?_) ?_
      · refine lv_if_eq (tgt := 57) hx hb dX5_chance_33 (by decide) (fun c5 => ?_) (fun c5 => ?_)
        · skip
          refine lv_ldc2 (v := (-1000000000000000002)) hx hb hown (hts (.constantLong RX5 159 (-1000000000000000002)) (by decide +kernel)) dX5_chance_57 ?_
          exact ja6 c5
        · skip
          refine lv_aload_n hx hb dX5_chance_36 rfl (lv_at hl 0 rfl) ?_
          refine lv_iload_n hx hb dX5_chance_37 rfl (lv_at hl 1 rfl) ?_
          refine rcVi (b := hm) (As := [.int p0]) (rest := []) hSF (kX5_sixtieths l D cI cZ cC hm am om p0) (cwV 1 hts gX5_chance_X5_sixtieths rfl rfl rfl (by decide +kernel) ⟨Nat.le_of_ble_eq_true rfl, Nat.le_of_ble_eq_true rfl⟩) (va_recv hK hP (ci := 5) (q0 := 0) rfl rfl) (hP.sub [0, 1, 2, 3, 4, 5, 6, 7, 8, 9, 10, 11] rfl) hK hN rfl rfl hl.1 (Nat.le_of_ble_eq_true rfl) dX5_chance_38 ⟨Nat.zero_le _, Nat.zero_le _⟩ ?_
          refine lv_i2l hx hb dX5_chance_41 rfl ?_
          refine lv_bipush (v := 60) hx hb dX5_chance_42 (by decide) ?_
          refine lv_aload_n hx hb dX5_chance_44 rfl (lv_at hl 0 rfl) ?_
          refine rcVi (b := hm) (As := []) (rest := [.int 60, .long (fX5_sixtieths om p0).toInt64]) hSF (kX5_weights l D cI cZ cC hm am om) (cwV 0 hts gX5_chance_X5_weights rfl rfl rfl (by decide +kernel) ⟨Nat.le_of_ble_eq_true rfl, Nat.le_of_ble_eq_true rfl⟩) (va_recv hK hP (ci := 5) (q0 := 0) rfl rfl) (hP.sub [0, 1, 2, 3, 4, 5, 6, 7, 8, 9, 10, 11] rfl) hK hN rfl rfl hl.1 (Nat.le_of_ble_eq_true rfl) dX5_chance_45 ⟨Nat.zero_le _, Nat.zero_le _⟩ ?_
          refine lv_imul hx hb dX5_chance_48 ?_
          refine lv_i2l hx hb dX5_chance_49 rfl ?_
          refine lv_iload_n hx hb dX5_chance_50 rfl (lv_at hl 2 rfl) ?_
          refine rcSl (As := [.long (fX5_sixtieths om p0).toInt64, .long (60 * (fX5_weights om)).toInt64, .int p1]) (rest := []) hSF (kX5_lowest l D cI cZ cC ((fX5_sixtieths om p0).toInt64) ((60 * (fX5_weights om)).toInt64) p1 (cw_lw hk5 _)) (va_cwS 3 hts gX5_chance_X5_lowest rfl rfl rfl (by decide +kernel) ⟨Nat.le_of_ble_eq_true rfl, Nat.le_of_ble_eq_true rfl⟩) (hP.sub [] rfl) hK hN rfl rfl hl.1 (Nat.le_of_ble_eq_true rfl) dX5_chance_51 ⟨Nat.zero_le _, Nat.zero_le _⟩ ?_
          refine lv_goto (tgt := 60) hx hb dX5_chance_54 (by decide) ?_
          exact jb6 c5
      have e9 : fX5_chance om p0 p1 = (if (fX5_in p1.toInt64 0 1) = 0 then ((-1000000000000000002) : Int64) else (fX5_lowest ((fX5_sixtieths om p0).toInt64) ((60 * (fX5_weights om)).toInt64) p1)) := by
        simp only [fX5_chance, if_pos c1, if_neg c4]
      exact W.lret hx hb hr (fun t ht hW => ⟨_, rfl, e9.symm, ht⟩) (fun _ h9 => absurd h9 List.not_mem_nil) dX5_chance_60
    · skip
      refine lv_ldc2 (v := (-1000000000000000001)) hx hb hown (hts (.constantLong RX5 150 (-1000000000000000001)) (by decide +kernel)) dX5_chance_22 ?_
      have e9 : fX5_chance om p0 p1 = (-1000000000000000001) := by
        simp only [fX5_chance, if_pos c1, if_pos c4]
      exact W.lret hx hb hr (fun t ht hW => ⟨_, rfl, e9.symm, ht⟩) (fun _ h9 => absurd h9 List.not_mem_nil) dX5_chance_25

set_option maxHeartbeats 4000000 in
set_option maxRecDepth 100000 in
theorem kX5_findStand (l : Launch) (D : va_G) (cI cZ cC : ClassId) (hm : Nat) (am : Nat → Nat) (om : OV) (p0 : Int32) (hp : vp_in p0 6) {sz : Nat} : Met l yX5_findStand wsX5_findStand ({ frames := 7, cells := 0, slots := 0, locals := 165 }) (pW D (tyv cI cZ cC) (wX5 cI cZ hm am om) sz [.ref hm, .int p0]) (va_Qv (fun (u : OV) => u = fX5_findStand om p0) (qW D (fun (u : OV) => wX5 cI cZ hm am u) (va_A (wX5 cI cZ hm am om) sz)) (va_A (wX5 cI cZ hm am om) sz)) 0 0 (va_A (wX5 cI cZ hm am om) sz) := by
  refine Met.ofW (cc := cX5_findStand) (maxL := 5) (ret := none) (by decide) rfl ?_
  intro p e s m args below meth c s₁ B hml hv
  obtain ⟨rfl, hsz, hP, hK, hN, hD0⟩ := hv
  have hx := B.exec
  have hb := B.bytes
  have hr := B.returns
  have hts := atoms_spec (ws := wsX5_findStand) B.pre
  have hown : s.vm.findClass RX5 = some m.cls := findClass_of_methodNamed B.named
  have hlocks := B.notSynchronized
  subst hsz
  have hD := hD0.self (sz := s.heap.size)
  generalize hAe : va_A (wX5 cI cZ hm am om) s.heap.size = A at hD ⊢
  have hA : ∀ q : Nat, s.heap.size ≤ q → A q := fun q h => by rw [← hAe]; exact Or.inr h
  have hS : va_S A s.heap s.heap [] := va_S.rf
  have hP : va_P D vwCl (wX5 cI cZ hm am om) s.heap := hP
  have hl := lv_entry ([.ref hm, .int p0]) (n := 5) (Nat.le_of_ble_eq_true rfl)
  rw [lg_entry_eq]
  generalize (lg_sl ([.ref hm, .int p0]) ++ List.replicate (5 - (lg_sl ([.ref hm, .int p0])).length) Slot.unset).toArray = ls at hl ⊢
  have hl : lv_has ls 5 [(0, .ref hm), (1, .int p0)] := hl
  have hSF : CallFix p m c cX5_findStand 5 s _ wsX5_findStand RX5 := ⟨hx, hb, hml, hown, hts⟩
  have hi5 : ∀ w ∈ wsX50, w ∈ wsX5_findStand := by decide +kernel
  have hf7 : (Cond.fieldLink RX5 7 "UmbrellaVoteModel" "placeOf" "[I").before _ s = true := hts _ (by decide +kernel)
  have hf161 : (Cond.fieldLink RX5 161 "UmbrellaVoteModel" "bestPlace" "I").before _ s = true := hts _ (by decide +kernel)
  have hf164 : (Cond.fieldLink RX5 164 "UmbrellaVoteModel" "bestIs" "I").before _ s = true := hts _ (by decide +kernel)
  refine lv_aload_n hx hb dX5_findStand_0 rfl (lv_at hl 0 rfl) ?_
  refine va_get (D := D) (ci := 5) (v := .ref (am 1)) (C := RX5) (T := TX5) (N := 24) hx hb hts hi5 hown hK hP 0 rfl rfl 1 (by decide) hf7 (fun _ h9 => h9) rfl dX5_findStand_1 ?_
  refine lv_iload_n hx hb dX5_findStand_4 rfl (lv_at hl 1 rfl) ?_
  refine va_iald (f := (om.2 1)) hx hb hK hP 1 0 rfl rfl hp dX5_findStand_5 ?_
  refine lv_istore_n (lv' := [(2, .int ((om.2 1) p0.toNatClampNeg)), (0, .ref hm), (1, .int p0)]) hx hb dX5_findStand_6 rfl hl (by decide) rfl (fun ls hl => ?_)
  refine lv_aload_n hx hb dX5_findStand_7 rfl (lv_at hl 1 rfl) ?_
  refine lv_bipush (v := (-6)) hx hb dX5_findStand_8 (by decide) ?_
  refine va_put (D := D) (ci := 5) (v := .int (-6)) (ty := .int) (C := RX5) (T := TX5) (N := 24) hx hb hts hi5 tyX5 tyX5_ok nmX5 hown hK hP hD hS 0 rfl rfl 17 (by decide) hf161 (fun _ h9 => h9) rfl (by decide +kernel) rfl rfl (Nat.le_of_ble_eq_true rfl) dX5_findStand_10 (fun H locs hP hD hS => ?_)
  have hP : va_P D vwCl (wX5 cI cZ hm am (us om 17 (-6))) H := hP
  have hD : va_D A (wX5 cI cZ hm am (us om 17 (-6))) := hD
  refine lv_aload_n hx hb dX5_findStand_13 rfl (lv_at hl 1 rfl) ?_
  refine lv_iconst (v := (-1)) hx hb dX5_findStand_14 (by decide) ?_
  refine va_put (D := D) (ci := 5) (v := .int (-1)) (ty := .int) (C := RX5) (T := TX5) (N := 24) hx hb hts hi5 tyX5 tyX5_ok nmX5 hown hK hP hD hS 0 rfl rfl 18 (by decide) hf164 (fun _ h9 => h9) rfl (by decide +kernel) rfl rfl (Nat.le_of_ble_eq_true rfl) dX5_findStand_15 (fun H locs hP hD hS => ?_)
  rw [sw_m_m_s18] at hP hD
  have hP : va_P D vwCl (wX5 cI cZ hm am (us (us om 17 (-6)) 18 (-1))) H := hP
  have hD : va_D A (wX5 cI cZ hm am (us (us om 17 (-6)) 18 (-1))) := hD
  refine lv_iconst (v := 0) hx hb dX5_findStand_18 (by decide) ?_
  refine lv_istore_n (lv' := [(3, .int 0), (2, .int ((om.2 1) p0.toNatClampNeg)), (0, .ref hm), (1, .int p0)]) hx hb dX5_findStand_19 rfl hl (by decide) rfl (fun ls hl => ?_)
  refine W_lpW (10) (fun k9 H9 locs9 ls9 => va_P D vwCl (wX5 cI cZ hm am (fX5_findStand_L20 p0 (us (us om 17 (-6)) 18 (-1)) k9)) H9 ∧ va_D A (wX5 cI cZ hm am (fX5_findStand_L20 p0 (us (us om 17 (-6)) 18 (-1)) k9)) ∧ va_S A s.heap H9 locs9 ∧ lv_has ls9 5 [(3, .int (nI k9)), (2, .int ((om.2 1) p0.toNatClampNeg)), (0, .ref hm), (1, .int p0)]) ⟨hP, hD, hS, lv_sub hl [0, 1, 2, 3] rfl⟩ ?_ ?_
  · intro k1 H locs ls hk1 hI9 ih1
    obtain ⟨hP, hD, hS, hl⟩ := hI9
    generalize hs1 : fX5_findStand_L20 p0 (us (us om 17 (-6)) 18 (-1)) k1 = y1 at hP hD hl
    obtain ⟨om1, en1⟩ : ∃ z, z = y1 := ⟨_, rfl⟩
    subst en1
    have hP : va_P D vwCl (wX5 cI cZ hm am om1) H := hP
    have hD : va_D A (wX5 cI cZ hm am om1) := hD
    have hl : lv_has ls 5 [(3, .int (nI k1)), (2, .int ((om.2 1) p0.toNatClampNeg)), (0, .ref hm), (1, .int p0)] := hl
    refine lv_iload_n hx hb dX5_findStand_20 rfl (lv_at hl 0 rfl) ?_
    refine lv_bipush (v := 10) hx hb dX5_findStand_21 (by decide) ?_
    refine lv_icmp_ge (tgt := 89) hx hb dX5_findStand_23 (by decide) (fun c2 => absurd c2 (nI_ge hk1 (by decide))) (fun c2 => ?_)
    refine lv_aload_n hx hb dX5_findStand_26 rfl (lv_at hl 2 rfl) ?_
    refine va_get (D := D) (ci := 5) (v := .ref (am 1)) (C := RX5) (T := TX5) (N := 24) hx hb hts hi5 hown hK hP 0 rfl rfl 1 (by decide) hf7 (fun _ h9 => h9) rfl dX5_findStand_27 ?_
    refine lv_iload_n hx hb dX5_findStand_30 rfl (lv_at hl 3 rfl) ?_
    refine lv_iload_n hx hb dX5_findStand_31 rfl (lv_at hl 0 rfl) ?_
    refine va_iast hx hb hK hP hD hS 1 0 rfl rfl hp dX5_findStand_32 (fun H locs hP hD hS => ?_)
    have hP : va_P D vwCl (wX5 cI cZ hm am (ua om1 1 p0.toNatClampNeg (nI k1))) H := hP
    have hD : va_D A (wX5 cI cZ hm am (ua om1 1 p0.toNatClampNeg (nI k1))) := hD
    refine lv_aload_n hx hb dX5_findStand_33 rfl (lv_at hl 2 rfl) ?_
    refine lv_iload_n hx hb dX5_findStand_34 rfl (lv_at hl 3 rfl) ?_
    refine rcVi (b := hm) (As := [.int p0]) (rest := []) hSF (kX5_sixtieths l D cI cZ cC hm am (ua om1 1 p0.toNatClampNeg (nI k1)) p0) (cwV 1 hts gX5_findStand_X5_sixtieths rfl rfl rfl (by decide +kernel) ⟨Nat.le_of_ble_eq_true rfl, Nat.le_of_ble_eq_true rfl⟩) (va_recv hK hP (ci := 5) (q0 := 0) rfl rfl) (hP.sub [0, 1, 2, 3, 4, 5, 6, 7, 8, 9, 10, 11] rfl) hK hN rfl rfl hl.1 (Nat.le_of_ble_eq_true rfl) dX5_findStand_35 ⟨Nat.zero_le _, Nat.zero_le _⟩ ?_
    refine lv_istore (lv' := [(4, .int (fX5_sixtieths (ua om1 1 p0.toNatClampNeg (nI k1)) p0)), (3, .int (nI k1)), (2, .int ((om.2 1) p0.toNatClampNeg)), (0, .ref hm), (1, .int p0)]) hx hb dX5_findStand_38 hl (by decide) rfl (fun ls hl => ?_)
    refine lv_aload_n hx hb dX5_findStand_40 rfl (lv_at hl 3 rfl) ?_
    refine lv_iload hx hb dX5_findStand_41 (lv_at hl 0 rfl) ?_
    refine lv_aload_n hx hb dX5_findStand_43 rfl (lv_at hl 3 rfl) ?_
    refine va_get (D := D) (ci := 5) (v := .int (om1.1 18)) (C := RX5) (T := TX5) (N := 24) hx hb hts hi5 hown hK hP 0 rfl rfl 18 (by decide) hf164 (fun _ h9 => h9) rfl dX5_findStand_44 ?_
    refine W_itei (P := (fX5_sixtieths (ua om1 1 p0.toNatClampNeg (nI k1)) p0) ≤ (om1.1 18)) (a := (om1.1 17)) (b := (nI k1)) (J := 58) (ls9 := ls) (rest9 := [.ref hm]) (fun ja4 jb4 => ?_) ?_
    · refine lv_icmp_le (tgt := 54) hx hb dX5_findStand_47 (by decide) (fun c3 => ?_) (fun c3 => ?_)
      · skip
        refine lv_aload_n hx hb dX5_findStand_54 rfl (lv_at hl 3 rfl) ?_
        refine va_get (D := D) (ci := 5) (v := .int (om1.1 17)) (C := RX5) (T := TX5) (N := 24) hx hb hts hi5 hown hK hP 0 rfl rfl 17 (by decide) hf161 (fun _ h9 => h9) rfl dX5_findStand_55 ?_
        exact ja4 c3
      · skip
        refine lv_iload_n hx hb dX5_findStand_50 rfl (lv_at hl 1 rfl) ?_
        refine lv_goto (tgt := 58) hx hb dX5_findStand_51 (by decide) ?_
        exact jb4 c3
    refine va_put (D := D) (ci := 5) (v := .int (if (fX5_sixtieths (ua om1 1 p0.toNatClampNeg (nI k1)) p0) ≤ (om1.1 18) then (om1.1 17) else (nI k1))) (ty := .int) (C := RX5) (T := TX5) (N := 24) hx hb hts hi5 tyX5 tyX5_ok nmX5 hown hK hP hD hS 0 rfl rfl 17 (by decide) hf161 (fun _ h9 => h9) rfl (by decide +kernel) rfl rfl (Nat.le_of_ble_eq_true rfl) dX5_findStand_58 (fun H locs hP hD hS => ?_)
    rw [sw_m_m_s17] at hP hD
    have hP : va_P D vwCl (wX5 cI cZ hm am (us (ua om1 1 p0.toNatClampNeg (nI k1)) 17 (if (fX5_sixtieths (ua om1 1 p0.toNatClampNeg (nI k1)) p0) ≤ (om1.1 18) then (om1.1 17) else (nI k1)))) H := hP
    have hD : va_D A (wX5 cI cZ hm am (us (ua om1 1 p0.toNatClampNeg (nI k1)) 17 (if (fX5_sixtieths (ua om1 1 p0.toNatClampNeg (nI k1)) p0) ≤ (om1.1 18) then (om1.1 17) else (nI k1)))) := hD
    refine lv_aload_n hx hb dX5_findStand_61 rfl (lv_at hl 3 rfl) ?_
    refine lv_iload hx hb dX5_findStand_62 (lv_at hl 0 rfl) ?_
    refine lv_aload_n hx hb dX5_findStand_64 rfl (lv_at hl 3 rfl) ?_
    refine va_get (D := D) (ci := 5) (v := .int (om1.1 18)) (C := RX5) (T := TX5) (N := 24) hx hb hts hi5 hown hK hP 0 rfl rfl 18 (by decide) hf164 (fun _ h9 => h9) rfl dX5_findStand_65 ?_
    refine W_itei (P := (fX5_sixtieths (ua om1 1 p0.toNatClampNeg (nI k1)) p0) ≤ (om1.1 18)) (a := (om1.1 18)) (b := (fX5_sixtieths (ua om1 1 p0.toNatClampNeg (nI k1)) p0)) (J := 80) (ls9 := ls) (rest9 := [.ref hm]) (fun ja6 jb6 => ?_) ?_
    · refine lv_icmp_le (tgt := 76) hx hb dX5_findStand_68 (by decide) (fun c5 => ?_) (fun c5 => ?_)
      · skip
        refine lv_aload_n hx hb dX5_findStand_76 rfl (lv_at hl 3 rfl) ?_
        refine va_get (D := D) (ci := 5) (v := .int (om1.1 18)) (C := RX5) (T := TX5) (N := 24) hx hb hts hi5 hown hK hP 0 rfl rfl 18 (by decide) hf164 (fun _ h9 => h9) rfl dX5_findStand_77 ?_
        exact ja6 c5
      · skip
        refine lv_iload hx hb dX5_findStand_71 (lv_at hl 0 rfl) ?_
        refine lv_goto (tgt := 80) hx hb dX5_findStand_73 (by decide) ?_
        exact jb6 c5
    refine va_put (D := D) (ci := 5) (v := .int (if (fX5_sixtieths (ua om1 1 p0.toNatClampNeg (nI k1)) p0) ≤ (om1.1 18) then (om1.1 18) else (fX5_sixtieths (ua om1 1 p0.toNatClampNeg (nI k1)) p0))) (ty := .int) (C := RX5) (T := TX5) (N := 24) hx hb hts hi5 tyX5 tyX5_ok nmX5 hown hK hP hD hS 0 rfl rfl 18 (by decide) hf164 (fun _ h9 => h9) rfl (by decide +kernel) rfl rfl (Nat.le_of_ble_eq_true rfl) dX5_findStand_80 (fun H locs hP hD hS => ?_)
    rw [sw_m_m_s18] at hP hD
    have hP : va_P D vwCl (wX5 cI cZ hm am (us (us (ua om1 1 p0.toNatClampNeg (nI k1)) 17 (if (fX5_sixtieths (ua om1 1 p0.toNatClampNeg (nI k1)) p0) ≤ (om1.1 18) then (om1.1 17) else (nI k1))) 18 (if (fX5_sixtieths (ua om1 1 p0.toNatClampNeg (nI k1)) p0) ≤ (om1.1 18) then (om1.1 18) else (fX5_sixtieths (ua om1 1 p0.toNatClampNeg (nI k1)) p0)))) H := hP
    have hD : va_D A (wX5 cI cZ hm am (us (us (ua om1 1 p0.toNatClampNeg (nI k1)) 17 (if (fX5_sixtieths (ua om1 1 p0.toNatClampNeg (nI k1)) p0) ≤ (om1.1 18) then (om1.1 17) else (nI k1))) 18 (if (fX5_sixtieths (ua om1 1 p0.toNatClampNeg (nI k1)) p0) ≤ (om1.1 18) then (om1.1 18) else (fX5_sixtieths (ua om1 1 p0.toNatClampNeg (nI k1)) p0)))) := hD
    refine lv_iinc (v := ((nI k1) + 1)) (lv' := [(3, .int ((nI k1) + 1)), (4, .int (fX5_sixtieths (ua om1 1 p0.toNatClampNeg (nI k1)) p0)), (2, .int ((om.2 1) p0.toNatClampNeg)), (0, .ref hm), (1, .int p0)]) hx hb dX5_findStand_83 hl (k := 1) rfl rfl (by decide) rfl (fun ls hl => ?_)
    refine lv_goto (tgt := 20) hx hb dX5_findStand_86 (by decide) ?_
    have e8 : fX5_findStand_L20s p0 k1 om1 = (us (us (ua om1 1 p0.toNatClampNeg (nI k1)) 17 (if (fX5_sixtieths (ua om1 1 p0.toNatClampNeg (nI k1)) p0) ≤ (om1.1 18) then (om1.1 17) else (nI k1))) 18 (if (fX5_sixtieths (ua om1 1 p0.toNatClampNeg (nI k1)) p0) ≤ (om1.1 18) then (om1.1 18) else (fX5_sixtieths (ua om1 1 p0.toNatClampNeg (nI k1)) p0))) := by
      rfl
    have e7 : fX5_findStand_L20 p0 (us (us om 17 (-6)) 18 (-1)) (k1 + 1) = (us (us (ua om1 1 p0.toNatClampNeg (nI k1)) 17 (if (fX5_sixtieths (ua om1 1 p0.toNatClampNeg (nI k1)) p0) ≤ (om1.1 18) then (om1.1 17) else (nI k1))) 18 (if (fX5_sixtieths (ua om1 1 p0.toNatClampNeg (nI k1)) p0) ≤ (om1.1 18) then (om1.1 18) else (fX5_sixtieths (ua om1 1 p0.toNatClampNeg (nI k1)) p0))) := by
      show fX5_findStand_L20s p0 k1 (fX5_findStand_L20 p0 (us (us om 17 (-6)) 18 (-1)) k1) = _
      rw [hs1]; exact e8
    have hl9 : lv_has ls 5 [(3, .int (nI (k1 + 1))), (2, .int ((om.2 1) p0.toNatClampNeg)), (0, .ref hm), (1, .int p0)] := by
      rw [nI_succ]; exact lv_sub hl [0, 2, 3, 4] rfl
    exact ih1 H locs ls ⟨by rw [e7]; exact hP, by rw [e7]; exact hD, hS, hl9⟩
  intro H locs ls hI9
  obtain ⟨hP, hD, hS, hl⟩ := hI9
  refine lv_iload_n hx hb dX5_findStand_20 rfl (lv_at hl 0 rfl) ?_
  refine lv_bipush (v := 10) hx hb dX5_findStand_21 (by decide) ?_
  refine lv_icmp_ge (tgt := 89) hx hb dX5_findStand_23 (by decide) (fun c7 => ?_) (fun c7 => absurd (nI_le (Nat.le_refl _) (by decide)) c7)
  refine lv_aload_n hx hb dX5_findStand_89 rfl (lv_at hl 2 rfl) ?_
  refine va_get (D := D) (ci := 5) (v := .ref (am 1)) (C := RX5) (T := TX5) (N := 24) hx hb hts hi5 hown hK hP 0 rfl rfl 1 (by decide) hf7 (fun _ h9 => h9) rfl dX5_findStand_90 ?_
  refine lv_iload_n hx hb dX5_findStand_93 rfl (lv_at hl 3 rfl) ?_
  refine lv_iload_n hx hb dX5_findStand_94 rfl (lv_at hl 1 rfl) ?_
  refine va_iast hx hb hK hP hD hS 1 0 rfl rfl hp dX5_findStand_95 (fun H locs hP hD hS => ?_)
  rw [sw_m_m_a1] at hP hD
  have hP : va_P D vwCl (wX5 cI cZ hm am (ua (fX5_findStand_L20 p0 (us (us om 17 (-6)) 18 (-1)) (10)) 1 p0.toNatClampNeg ((om.2 1) p0.toNatClampNeg))) H := hP
  have hD : va_D A (wX5 cI cZ hm am (ua (fX5_findStand_L20 p0 (us (us om 17 (-6)) 18 (-1)) (10)) 1 p0.toNatClampNeg ((om.2 1) p0.toNatClampNeg))) := hD
  have e9 : fX5_findStand om p0 = (ua (fX5_findStand_L20 p0 (us (us om 17 (-6)) 18 (-1)) (10)) 1 p0.toNatClampNeg ((om.2 1) p0.toNatClampNeg)) := by
    rfl
  exact W.vret hx hb hr (fun t ht hW => ⟨⟨(ua (fX5_findStand_L20 p0 (us (us om 17 (-6)) 18 (-1)) (10)) 1 p0.toNatClampNeg ((om.2 1) p0.toNatClampNeg)), rfl, e9.symm, ⟨by rw [ht]; exact hP, hD⟩⟩, hS.F ht⟩) hS.2.2 dX5_findStand_96

set_option maxHeartbeats 4000000 in
set_option maxRecDepth 100000 in
theorem kX5_best (l : Launch) (D : va_G) (cI cZ cC : ClassId) (hm : Nat) (am : Nat → Nat) (om : OV) (p0 : Int32)  {sz : Nat} : Met l yX5_best wsX5_best ({ frames := 8, cells := 0, slots := 0, locals := 189 }) (pW D (tyv cI cZ cC) (wX5 cI cZ hm am om) sz [.ref hm, .int p0]) (va_Qi (fun r (u : OV) => r = (fX5_best om p0).1 ∧ u = (fX5_best om p0).2) (qW D (fun (u : OV) => wX5 cI cZ hm am u) (va_A (wX5 cI cZ hm am om) sz)) (va_A (wX5 cI cZ hm am om) sz)) 0 0 (va_A (wX5 cI cZ hm am om) sz) := by
  refine Met.ofW (cc := cX5_best) (maxL := 2) (ret := (some .int)) (by decide) rfl ?_
  intro p e s m args below meth c s₁ B hml hv
  obtain ⟨rfl, hsz, hP, hK, hN, hD0⟩ := hv
  have hx := B.exec
  have hb := B.bytes
  have hr := B.returns
  have hts := atoms_spec (ws := wsX5_best) B.pre
  have hown : s.vm.findClass RX5 = some m.cls := findClass_of_methodNamed B.named
  have hlocks := B.notSynchronized
  subst hsz
  have hD := hD0.self (sz := s.heap.size)
  generalize hAe : va_A (wX5 cI cZ hm am om) s.heap.size = A at hD ⊢
  have hA : ∀ q : Nat, s.heap.size ≤ q → A q := fun q h => by rw [← hAe]; exact Or.inr h
  have hS : va_S A s.heap s.heap [] := va_S.rf
  have hP : va_P D vwCl (wX5 cI cZ hm am om) s.heap := hP
  have hl := lv_entry ([.ref hm, .int p0]) (n := 2) (Nat.le_of_ble_eq_true rfl)
  rw [lg_entry_eq]
  generalize (lg_sl ([.ref hm, .int p0]) ++ List.replicate (2 - (lg_sl ([.ref hm, .int p0])).length) Slot.unset).toArray = ls at hl ⊢
  have hl : lv_has ls 2 [(0, .ref hm), (1, .int p0)] := hl
  have hSF : CallFix p m c cX5_best 2 s _ wsX5_best RX5 := ⟨hx, hb, hml, hown, hts⟩
  have hi5 : ∀ w ∈ wsX50, w ∈ wsX5_best := by decide +kernel
  have hf161 : (Cond.fieldLink RX5 161 "UmbrellaVoteModel" "bestPlace" "I").before _ s = true := hts _ (by decide +kernel)
  refine lv_aload_n hx hb dX5_best_0 rfl (lv_at hl 0 rfl) ?_
  refine lv_iload_n hx hb dX5_best_1 rfl (lv_at hl 1 rfl) ?_
  refine rcVi (b := hm) (As := [.int p0]) (rest := []) hSF (kX5_isThere l D cI cZ cC hm am om p0) (cwV 1 hts gX5_best_X5_isThere rfl rfl rfl (by decide +kernel) ⟨Nat.le_of_ble_eq_true rfl, Nat.le_of_ble_eq_true rfl⟩) (va_recv hK hP (ci := 5) (q0 := 0) rfl rfl) (hP.sub [0, 1, 2, 3, 4, 5, 6, 7, 8, 9, 10, 11] rfl) hK hN rfl rfl hl.1 (Nat.le_of_ble_eq_true rfl) dX5_best_2 ⟨Nat.zero_le _, Nat.zero_le _⟩ ?_
  refine lv_if_ne (tgt := 10) hx hb dX5_best_5 (by decide) (fun c1 => ?_) (fun c1 => ?_)
  · skip
    refine lv_aload_n hx hb dX5_best_10 rfl (lv_at hl 0 rfl) ?_
    refine lv_iload_n hx hb dX5_best_11 rfl (lv_at hl 1 rfl) ?_
    refine wcVv (b := hm) (As := [.int p0]) (rest := []) (wr := []) (ws' := wX5 cI cZ hm am (fX5_findStand om p0)) hSF (kX5_findStand l D cI cZ cC hm am om p0 (it5 (by with_reducible assumption))) (cwV 1 hts gX5_best_X5_findStand rfl rfl rfl (by decide +kernel) ⟨Nat.le_of_ble_eq_true rfl, Nat.le_of_ble_eq_true rfl⟩) (va_recv hK hP (ci := 5) (q0 := 0) rfl rfl) hP hD hS hA hK hN [0, 1, 2, 3, 4, 5, 6, 7, 8, 9, 10, 11] [] [0, 1, 2, 3, 4, 5, 6, 7, 8, 9, 10, 11] rfl (by decide) rfl (by decide) (by decide) rfl (by decide) rfl rfl hl.1 (Nat.le_of_ble_eq_true rfl) dX5_best_12 ⟨Nat.zero_le _, Nat.zero_le _⟩ (fun H locs hP hD hS => ?_)
    refine lv_aload_n hx hb dX5_best_15 rfl (lv_at hl 0 rfl) ?_
    refine va_get (D := D) (ci := 5) (v := .int ((fX5_findStand om p0).1 17)) (C := RX5) (T := TX5) (N := 24) hx hb hts hi5 hown hK hP 0 rfl rfl 17 (by decide) hf161 (fun _ h9 => h9) rfl dX5_best_16 ?_
    have e9 : fX5_best om p0 = (((fX5_findStand om p0).1 17), (fX5_findStand om p0)) := by
      simp only [fX5_best, if_neg c1]
    exact W.iret hx hb hr (fun t ht hW => ⟨⟨_, (fX5_findStand om p0), rfl, ⟨by rw [e9], by rw [e9]⟩, ⟨by rw [ht]; exact hP, hD⟩⟩, hS.F ht⟩) hS.2.2 dX5_best_19
  · skip
    refine lv_iconst (v := (-1)) hx hb dX5_best_8 (by decide) ?_
    have e9 : fX5_best om p0 = (((-1) : Int32), om) := by
      simp only [fX5_best, if_pos c1]
    exact W.iret hx hb hr (fun t ht hW => ⟨⟨_, om, rfl, ⟨by rw [e9], by rw [e9]⟩, ⟨by rw [ht]; exact hP, hD⟩⟩, hS.F ht⟩) hS.2.2 dX5_best_9

set_option maxHeartbeats 4000000 in
set_option maxRecDepth 100000 in
theorem kX5_bestChance (l : Launch) (D : va_G) (cI cZ cC : ClassId) (hm : Nat) (am : Nat → Nat) (om : OV) (p0 : Int32) (p1 : Int32) (hk5 : cok5 om) {sz : Nat} : Met l yX5_bestChance wsX5_bestChance ({ frames := 8, cells := 0, slots := 0, locals := 189 }) (pW D (tyv cI cZ cC) (wX5 cI cZ hm am om) sz [.ref hm, .int p0, .int p1]) (va_Ql (fun r (u : OV) => r = (fX5_bestChance om p0 p1).1 ∧ u = (fX5_bestChance om p0 p1).2) (qW D (fun (u : OV) => wX5 cI cZ hm am u) (va_A (wX5 cI cZ hm am om) sz)) (va_A (wX5 cI cZ hm am om) sz)) 0 0 (va_A (wX5 cI cZ hm am om) sz) := by
  refine Met.ofW (cc := cX5_bestChance) (maxL := 3) (ret := (some .long)) (by decide) rfl ?_
  intro p e s m args below meth c s₁ B hml hv
  obtain ⟨rfl, hsz, hP, hK, hN, hD0⟩ := hv
  have hx := B.exec
  have hb := B.bytes
  have hr := B.returns
  have hts := atoms_spec (ws := wsX5_bestChance) B.pre
  have hown : s.vm.findClass RX5 = some m.cls := findClass_of_methodNamed B.named
  have hlocks := B.notSynchronized
  subst hsz
  have hD := hD0.self (sz := s.heap.size)
  generalize hAe : va_A (wX5 cI cZ hm am om) s.heap.size = A at hD ⊢
  have hA : ∀ q : Nat, s.heap.size ≤ q → A q := fun q h => by rw [← hAe]; exact Or.inr h
  have hS : va_S A s.heap s.heap [] := va_S.rf
  have hP : va_P D vwCl (wX5 cI cZ hm am om) s.heap := hP
  have hl := lv_entry ([.ref hm, .int p0, .int p1]) (n := 3) (Nat.le_of_ble_eq_true rfl)
  rw [lg_entry_eq]
  generalize (lg_sl ([.ref hm, .int p0, .int p1]) ++ List.replicate (3 - (lg_sl ([.ref hm, .int p0, .int p1])).length) Slot.unset).toArray = ls at hl ⊢
  have hl : lv_has ls 3 [(0, .ref hm), (1, .int p0), (2, .int p1)] := hl
  have hSF : CallFix p m c cX5_bestChance 3 s _ wsX5_bestChance RX5 := ⟨hx, hb, hml, hown, hts⟩
  have hi5 : ∀ w ∈ wsX50, w ∈ wsX5_bestChance := by decide +kernel
  have hf164 : (Cond.fieldLink RX5 164 "UmbrellaVoteModel" "bestIs" "I").before _ s = true := hts _ (by decide +kernel)
  refine lv_aload_n hx hb dX5_bestChance_0 rfl (lv_at hl 0 rfl) ?_
  refine lv_iload_n hx hb dX5_bestChance_1 rfl (lv_at hl 1 rfl) ?_
  refine rcVi (b := hm) (As := [.int p0]) (rest := []) hSF (kX5_isThere l D cI cZ cC hm am om p0) (cwV 1 hts gX5_bestChance_X5_isThere rfl rfl rfl (by decide +kernel) ⟨Nat.le_of_ble_eq_true rfl, Nat.le_of_ble_eq_true rfl⟩) (va_recv hK hP (ci := 5) (q0 := 0) rfl rfl) (hP.sub [0, 1, 2, 3, 4, 5, 6, 7, 8, 9, 10, 11] rfl) hK hN rfl rfl hl.1 (Nat.le_of_ble_eq_true rfl) dX5_bestChance_2 ⟨Nat.zero_le _, Nat.zero_le _⟩ ?_
  refine lv_if_ne (tgt := 12) hx hb dX5_bestChance_5 (by decide) (fun c1 => ?_) (fun c1 => ?_)
  · skip
    refine lv_iload_n hx hb dX5_bestChance_12 rfl (lv_at hl 2 rfl) ?_
    refine lv_i2l hx hb dX5_bestChance_13 rfl ?_
    refine lv_lconst (v := 0) hx hb dX5_bestChance_14 (by decide) ?_
    refine lv_lconst (v := 1) hx hb dX5_bestChance_15 (by decide) ?_
    refine rcSi (As := [.long p1.toInt64, .long 0, .long 1]) (rest := []) hSF (kX5_in l D cI cZ cC p1.toInt64 0 1) (va_cwS 3 hts gX5_bestChance_X5_in rfl rfl rfl (by decide +kernel) ⟨Nat.le_of_ble_eq_true rfl, Nat.le_of_ble_eq_true rfl⟩) (hP.sub [] rfl) hK hN rfl rfl hl.1 (Nat.le_of_ble_eq_true rfl) dX5_bestChance_16 ⟨Nat.zero_le _, Nat.zero_le _⟩ ?_
    refine lv_if_ne (tgt := 26) hx hb dX5_bestChance_19 (by decide) (fun c2 => ?_) (fun c2 => ?_)
    · skip
      refine lv_aload_n hx hb dX5_bestChance_26 rfl (lv_at hl 0 rfl) ?_
      refine lv_iload_n hx hb dX5_bestChance_27 rfl (lv_at hl 1 rfl) ?_
      refine wcVv (b := hm) (As := [.int p0]) (rest := []) (wr := []) (ws' := wX5 cI cZ hm am (fX5_findStand om p0)) hSF (kX5_findStand l D cI cZ cC hm am om p0 (it5 (by with_reducible assumption))) (cwV 1 hts gX5_bestChance_X5_findStand rfl rfl rfl (by decide +kernel) ⟨Nat.le_of_ble_eq_true rfl, Nat.le_of_ble_eq_true rfl⟩) (va_recv hK hP (ci := 5) (q0 := 0) rfl rfl) hP hD hS hA hK hN [0, 1, 2, 3, 4, 5, 6, 7, 8, 9, 10, 11] [] [0, 1, 2, 3, 4, 5, 6, 7, 8, 9, 10, 11] rfl (by decide) rfl (by decide) (by decide) rfl (by decide) rfl rfl hl.1 (Nat.le_of_ble_eq_true rfl) dX5_bestChance_28 ⟨Nat.zero_le _, Nat.zero_le _⟩ (fun H locs hP hD hS => ?_)
      refine lv_aload_n hx hb dX5_bestChance_31 rfl (lv_at hl 0 rfl) ?_
      refine va_get (D := D) (ci := 5) (v := .int ((fX5_findStand om p0).1 18)) (C := RX5) (T := TX5) (N := 24) hx hb hts hi5 hown hK hP 0 rfl rfl 18 (by decide) hf164 (fun _ h9 => h9) rfl dX5_bestChance_32 ?_
      refine lv_i2l hx hb dX5_bestChance_35 rfl ?_
      refine lv_bipush (v := 60) hx hb dX5_bestChance_36 (by decide) ?_
      refine lv_aload_n hx hb dX5_bestChance_38 rfl (lv_at hl 0 rfl) ?_
      refine rcVi (b := hm) (As := []) (rest := [.int 60, .long ((fX5_findStand om p0).1 18).toInt64]) hSF (kX5_weights l D cI cZ cC hm am (fX5_findStand om p0)) (cwV 0 hts gX5_bestChance_X5_weights rfl rfl rfl (by decide +kernel) ⟨Nat.le_of_ble_eq_true rfl, Nat.le_of_ble_eq_true rfl⟩) (va_recv hK hP (ci := 5) (q0 := 0) rfl rfl) (hP.sub [0, 1, 2, 3, 4, 5, 6, 7, 8, 9, 10, 11] rfl) hK hN rfl rfl hl.1 (Nat.le_of_ble_eq_true rfl) dX5_bestChance_39 ⟨Nat.zero_le _, Nat.zero_le _⟩ ?_
      refine lv_imul hx hb dX5_bestChance_42 ?_
      refine lv_i2l hx hb dX5_bestChance_43 rfl ?_
      refine lv_iload_n hx hb dX5_bestChance_44 rfl (lv_at hl 2 rfl) ?_
      refine rcSl (As := [.long ((fX5_findStand om p0).1 18).toInt64, .long (60 * (fX5_weights (fX5_findStand om p0))).toInt64, .int p1]) (rest := []) hSF (kX5_lowest l D cI cZ cC (((fX5_findStand om p0).1 18).toInt64) ((60 * (fX5_weights (fX5_findStand om p0))).toInt64) p1 (cb_lw hk5 _)) (va_cwS 3 hts gX5_bestChance_X5_lowest rfl rfl rfl (by decide +kernel) ⟨Nat.le_of_ble_eq_true rfl, Nat.le_of_ble_eq_true rfl⟩) (hP.sub [] rfl) hK hN rfl rfl hl.1 (Nat.le_of_ble_eq_true rfl) dX5_bestChance_45 ⟨Nat.zero_le _, Nat.zero_le _⟩ ?_
      have e9 : fX5_bestChance om p0 p1 = ((fX5_lowest (((fX5_findStand om p0).1 18).toInt64) ((60 * (fX5_weights (fX5_findStand om p0))).toInt64) p1), (fX5_findStand om p0)) := by
        simp only [fX5_bestChance, if_neg c1, if_neg c2]
      exact W.lret hx hb hr (fun t ht hW => ⟨⟨_, (fX5_findStand om p0), rfl, ⟨by rw [e9], by rw [e9]⟩, ⟨by rw [ht]; exact hP, hD⟩⟩, hS.F ht⟩) hS.2.2 dX5_bestChance_48
    · skip
      refine lv_ldc2 (v := (-1000000000000000002)) hx hb hown (hts (.constantLong RX5 159 (-1000000000000000002)) (by decide +kernel)) dX5_bestChance_22 ?_
      have e9 : fX5_bestChance om p0 p1 = (((-1000000000000000002) : Int64), om) := by
        simp only [fX5_bestChance, if_neg c1, if_pos c2]
      exact W.lret hx hb hr (fun t ht hW => ⟨⟨_, om, rfl, ⟨by rw [e9], by rw [e9]⟩, ⟨by rw [ht]; exact hP, hD⟩⟩, hS.F ht⟩) hS.2.2 dX5_bestChance_25
  · skip
    refine lv_ldc2 (v := (-1000000000000000001)) hx hb hown (hts (.constantLong RX5 150 (-1000000000000000001)) (by decide +kernel)) dX5_bestChance_8 ?_
    have e9 : fX5_bestChance om p0 p1 = (((-1000000000000000001) : Int64), om) := by
      simp only [fX5_bestChance, if_pos c1]
    exact W.lret hx hb hr (fun t ht hW => ⟨⟨_, om, rfl, ⟨by rw [e9], by rw [e9]⟩, ⟨by rw [ht]; exact hP, hD⟩⟩, hS.F ht⟩) hS.2.2 dX5_bestChance_11

set_option maxHeartbeats 4000000 in
set_option maxRecDepth 100000 in
theorem kX5_keepPlaces (l : Launch) (D : va_G) (cI cZ cC : ClassId) (hm : Nat) (am : Nat → Nat) (om : OV)   {sz : Nat} : Met l yX5_keepPlaces wsX5_keepPlaces ({ frames := 0, cells := 0, slots := 0, locals := 0 }) (pW D (tyv cI cZ cC) (wX5 cI cZ hm am om) sz [.ref hm]) (va_Qv (fun (u : OV) => u = fX5_keepPlaces om) (qW D (fun (u : OV) => wX5 cI cZ hm am u) (va_A (wX5 cI cZ hm am om) sz)) (va_A (wX5 cI cZ hm am om) sz)) 0 0 (va_A (wX5 cI cZ hm am om) sz) := by
  refine Met.ofW (cc := cX5_keepPlaces) (maxL := 2) (ret := none) (by decide) rfl ?_
  intro p e s m args below meth c s₁ B hml hv
  obtain ⟨rfl, hsz, hP, hK, hN, hD0⟩ := hv
  have hx := B.exec
  have hb := B.bytes
  have hr := B.returns
  have hts := atoms_spec (ws := wsX5_keepPlaces) B.pre
  have hown : s.vm.findClass RX5 = some m.cls := findClass_of_methodNamed B.named
  have hlocks := B.notSynchronized
  subst hsz
  have hD := hD0.self (sz := s.heap.size)
  generalize hAe : va_A (wX5 cI cZ hm am om) s.heap.size = A at hD ⊢
  have hA : ∀ q : Nat, s.heap.size ≤ q → A q := fun q h => by rw [← hAe]; exact Or.inr h
  have hS : va_S A s.heap s.heap [] := va_S.rf
  have hP : va_P D vwCl (wX5 cI cZ hm am om) s.heap := hP
  have hl := lv_entry ([.ref hm]) (n := 2) (Nat.le_of_ble_eq_true rfl)
  rw [lg_entry_eq]
  generalize (lg_sl ([.ref hm]) ++ List.replicate (2 - (lg_sl ([.ref hm])).length) Slot.unset).toArray = ls at hl ⊢
  have hl : lv_has ls 2 [(0, .ref hm)] := hl
  have hSF : CallFix p m c cX5_keepPlaces 2 s _ wsX5_keepPlaces RX5 := ⟨hx, hb, hml, hown, hts⟩
  have hi5 : ∀ w ∈ wsX50, w ∈ wsX5_keepPlaces := by decide +kernel
  have hf34 : (Cond.fieldLink RX5 34 "UmbrellaVoteModel" "hadPlace" "[I").before _ s = true := hts _ (by decide +kernel)
  have hf7 : (Cond.fieldLink RX5 7 "UmbrellaVoteModel" "placeOf" "[I").before _ s = true := hts _ (by decide +kernel)
  refine lv_iconst (v := 0) hx hb dX5_keepPlaces_0 (by decide) ?_
  refine lv_istore_n (lv' := [(1, .int 0), (0, .ref hm)]) hx hb dX5_keepPlaces_1 rfl hl (by decide) rfl (fun ls hl => ?_)
  refine W_lpW (6) (fun k9 H9 locs9 ls9 => va_P D vwCl (wX5 cI cZ hm am (fX5_keepPlaces_L2 om k9)) H9 ∧ va_D A (wX5 cI cZ hm am (fX5_keepPlaces_L2 om k9)) ∧ va_S A s.heap H9 locs9 ∧ lv_has ls9 2 [(1, .int (nI k9)), (0, .ref hm)]) ⟨hP, hD, hS, lv_sub hl [0, 1] rfl⟩ ?_ ?_
  · intro k1 H locs ls hk1 hI9 ih1
    obtain ⟨hP, hD, hS, hl⟩ := hI9
    generalize hs1 : fX5_keepPlaces_L2 om k1 = y1 at hP hD hl
    obtain ⟨om1, en1⟩ : ∃ z, z = y1 := ⟨_, rfl⟩
    subst en1
    have hP : va_P D vwCl (wX5 cI cZ hm am om1) H := hP
    have hD : va_D A (wX5 cI cZ hm am om1) := hD
    have hl : lv_has ls 2 [(1, .int (nI k1)), (0, .ref hm)] := hl
    refine lv_iload_n hx hb dX5_keepPlaces_2 rfl (lv_at hl 0 rfl) ?_
    refine lv_bipush (v := 6) hx hb dX5_keepPlaces_3 (by decide) ?_
    refine lv_icmp_ge (tgt := 26) hx hb dX5_keepPlaces_5 (by decide) (fun c2 => absurd c2 (nI_ge hk1 (by decide))) (fun c2 => ?_)
    refine lv_aload_n hx hb dX5_keepPlaces_8 rfl (lv_at hl 1 rfl) ?_
    refine va_get (D := D) (ci := 5) (v := .ref (am 19)) (C := RX5) (T := TX5) (N := 24) hx hb hts hi5 hown hK hP 0 rfl rfl 19 (by decide) hf34 (fun _ h9 => h9) rfl dX5_keepPlaces_9 ?_
    refine lv_iload_n hx hb dX5_keepPlaces_12 rfl (lv_at hl 0 rfl) ?_
    refine lv_aload_n hx hb dX5_keepPlaces_13 rfl (lv_at hl 1 rfl) ?_
    refine va_get (D := D) (ci := 5) (v := .ref (am 1)) (C := RX5) (T := TX5) (N := 24) hx hb hts hi5 hown hK hP 0 rfl rfl 1 (by decide) hf7 (fun _ h9 => h9) rfl dX5_keepPlaces_14 ?_
    refine lv_iload_n hx hb dX5_keepPlaces_17 rfl (lv_at hl 0 rfl) ?_
    refine va_iald (f := (om1.2 1)) hx hb hK hP 1 0 rfl rfl (vp_in_nI (Nat.lt_of_lt_of_le hk1 (by decide)) (by decide)) dX5_keepPlaces_18 ?_
    refine va_iast hx hb hK hP hD hS 9 0 rfl rfl (vp_in_nI (Nat.lt_of_lt_of_le hk1 (by decide)) (by decide)) dX5_keepPlaces_19 (fun H locs hP hD hS => ?_)
    have hP : va_P D vwCl (wX5 cI cZ hm am (ua om1 19 (nI k1).toNatClampNeg ((om1.2 1) (nI k1).toNatClampNeg))) H := hP
    have hD : va_D A (wX5 cI cZ hm am (ua om1 19 (nI k1).toNatClampNeg ((om1.2 1) (nI k1).toNatClampNeg))) := hD
    refine lv_iinc (v := ((nI k1) + 1)) (lv' := [(1, .int ((nI k1) + 1)), (0, .ref hm)]) hx hb dX5_keepPlaces_20 hl (k := 0) rfl rfl (by decide) rfl (fun ls hl => ?_)
    refine lv_goto (tgt := 2) hx hb dX5_keepPlaces_23 (by decide) ?_
    have e8 : fX5_keepPlaces_L2s k1 om1 = (ua om1 19 (nI k1).toNatClampNeg ((om1.2 1) (nI k1).toNatClampNeg)) := by
      rfl
    have e7 : fX5_keepPlaces_L2 om (k1 + 1) = (ua om1 19 (nI k1).toNatClampNeg ((om1.2 1) (nI k1).toNatClampNeg)) := by
      show fX5_keepPlaces_L2s k1 (fX5_keepPlaces_L2 om k1) = _
      rw [hs1]; exact e8
    have hl9 : lv_has ls 2 [(1, .int (nI (k1 + 1))), (0, .ref hm)] := by
      rw [nI_succ]; exact lv_sub hl [0, 1] rfl
    exact ih1 H locs ls ⟨by rw [e7]; exact hP, by rw [e7]; exact hD, hS, hl9⟩
  intro H locs ls hI9
  obtain ⟨hP, hD, hS, hl⟩ := hI9
  refine lv_iload_n hx hb dX5_keepPlaces_2 rfl (lv_at hl 0 rfl) ?_
  refine lv_bipush (v := 6) hx hb dX5_keepPlaces_3 (by decide) ?_
  refine lv_icmp_ge (tgt := 26) hx hb dX5_keepPlaces_5 (by decide) (fun c3 => ?_) (fun c3 => absurd (nI_le (Nat.le_refl _) (by decide)) c3)
  have e9 : fX5_keepPlaces om = (fX5_keepPlaces_L2 om (6)) := by
    rfl
  exact W.vret hx hb hr (fun t ht hW => ⟨⟨(fX5_keepPlaces_L2 om (6)), rfl, e9.symm, ⟨by rw [ht]; exact hP, hD⟩⟩, hS.F ht⟩) hS.2.2 dX5_keepPlaces_26

set_option maxHeartbeats 4000000 in
set_option maxRecDepth 100000 in
theorem kX5_putPlaces (l : Launch) (D : va_G) (cI cZ cC : ClassId) (hm : Nat) (am : Nat → Nat) (om : OV)   {sz : Nat} : Met l yX5_putPlaces wsX5_putPlaces ({ frames := 0, cells := 0, slots := 0, locals := 0 }) (pW D (tyv cI cZ cC) (wX5 cI cZ hm am om) sz [.ref hm]) (va_Qv (fun (u : OV) => u = fX5_putPlaces om) (qW D (fun (u : OV) => wX5 cI cZ hm am u) (va_A (wX5 cI cZ hm am om) sz)) (va_A (wX5 cI cZ hm am om) sz)) 0 0 (va_A (wX5 cI cZ hm am om) sz) := by
  refine Met.ofW (cc := cX5_putPlaces) (maxL := 2) (ret := none) (by decide) rfl ?_
  intro p e s m args below meth c s₁ B hml hv
  obtain ⟨rfl, hsz, hP, hK, hN, hD0⟩ := hv
  have hx := B.exec
  have hb := B.bytes
  have hr := B.returns
  have hts := atoms_spec (ws := wsX5_putPlaces) B.pre
  have hown : s.vm.findClass RX5 = some m.cls := findClass_of_methodNamed B.named
  have hlocks := B.notSynchronized
  subst hsz
  have hD := hD0.self (sz := s.heap.size)
  generalize hAe : va_A (wX5 cI cZ hm am om) s.heap.size = A at hD ⊢
  have hA : ∀ q : Nat, s.heap.size ≤ q → A q := fun q h => by rw [← hAe]; exact Or.inr h
  have hS : va_S A s.heap s.heap [] := va_S.rf
  have hP : va_P D vwCl (wX5 cI cZ hm am om) s.heap := hP
  have hl := lv_entry ([.ref hm]) (n := 2) (Nat.le_of_ble_eq_true rfl)
  rw [lg_entry_eq]
  generalize (lg_sl ([.ref hm]) ++ List.replicate (2 - (lg_sl ([.ref hm])).length) Slot.unset).toArray = ls at hl ⊢
  have hl : lv_has ls 2 [(0, .ref hm)] := hl
  have hSF : CallFix p m c cX5_putPlaces 2 s _ wsX5_putPlaces RX5 := ⟨hx, hb, hml, hown, hts⟩
  have hi5 : ∀ w ∈ wsX50, w ∈ wsX5_putPlaces := by decide +kernel
  have hf7 : (Cond.fieldLink RX5 7 "UmbrellaVoteModel" "placeOf" "[I").before _ s = true := hts _ (by decide +kernel)
  have hf34 : (Cond.fieldLink RX5 34 "UmbrellaVoteModel" "hadPlace" "[I").before _ s = true := hts _ (by decide +kernel)
  refine lv_iconst (v := 0) hx hb dX5_putPlaces_0 (by decide) ?_
  refine lv_istore_n (lv' := [(1, .int 0), (0, .ref hm)]) hx hb dX5_putPlaces_1 rfl hl (by decide) rfl (fun ls hl => ?_)
  refine W_lpW (6) (fun k9 H9 locs9 ls9 => va_P D vwCl (wX5 cI cZ hm am (fX5_putPlaces_L2 om k9)) H9 ∧ va_D A (wX5 cI cZ hm am (fX5_putPlaces_L2 om k9)) ∧ va_S A s.heap H9 locs9 ∧ lv_has ls9 2 [(1, .int (nI k9)), (0, .ref hm)]) ⟨hP, hD, hS, lv_sub hl [0, 1] rfl⟩ ?_ ?_
  · intro k1 H locs ls hk1 hI9 ih1
    obtain ⟨hP, hD, hS, hl⟩ := hI9
    generalize hs1 : fX5_putPlaces_L2 om k1 = y1 at hP hD hl
    obtain ⟨om1, en1⟩ : ∃ z, z = y1 := ⟨_, rfl⟩
    subst en1
    have hP : va_P D vwCl (wX5 cI cZ hm am om1) H := hP
    have hD : va_D A (wX5 cI cZ hm am om1) := hD
    have hl : lv_has ls 2 [(1, .int (nI k1)), (0, .ref hm)] := hl
    refine lv_iload_n hx hb dX5_putPlaces_2 rfl (lv_at hl 0 rfl) ?_
    refine lv_bipush (v := 6) hx hb dX5_putPlaces_3 (by decide) ?_
    refine lv_icmp_ge (tgt := 26) hx hb dX5_putPlaces_5 (by decide) (fun c2 => absurd c2 (nI_ge hk1 (by decide))) (fun c2 => ?_)
    refine lv_aload_n hx hb dX5_putPlaces_8 rfl (lv_at hl 1 rfl) ?_
    refine va_get (D := D) (ci := 5) (v := .ref (am 1)) (C := RX5) (T := TX5) (N := 24) hx hb hts hi5 hown hK hP 0 rfl rfl 1 (by decide) hf7 (fun _ h9 => h9) rfl dX5_putPlaces_9 ?_
    refine lv_iload_n hx hb dX5_putPlaces_12 rfl (lv_at hl 0 rfl) ?_
    refine lv_aload_n hx hb dX5_putPlaces_13 rfl (lv_at hl 1 rfl) ?_
    refine va_get (D := D) (ci := 5) (v := .ref (am 19)) (C := RX5) (T := TX5) (N := 24) hx hb hts hi5 hown hK hP 0 rfl rfl 19 (by decide) hf34 (fun _ h9 => h9) rfl dX5_putPlaces_14 ?_
    refine lv_iload_n hx hb dX5_putPlaces_17 rfl (lv_at hl 0 rfl) ?_
    refine va_iald (f := (om1.2 19)) hx hb hK hP 9 0 rfl rfl (vp_in_nI (Nat.lt_of_lt_of_le hk1 (by decide)) (by decide)) dX5_putPlaces_18 ?_
    refine va_iast hx hb hK hP hD hS 1 0 rfl rfl (vp_in_nI (Nat.lt_of_lt_of_le hk1 (by decide)) (by decide)) dX5_putPlaces_19 (fun H locs hP hD hS => ?_)
    have hP : va_P D vwCl (wX5 cI cZ hm am (ua om1 1 (nI k1).toNatClampNeg ((om1.2 19) (nI k1).toNatClampNeg))) H := hP
    have hD : va_D A (wX5 cI cZ hm am (ua om1 1 (nI k1).toNatClampNeg ((om1.2 19) (nI k1).toNatClampNeg))) := hD
    refine lv_iinc (v := ((nI k1) + 1)) (lv' := [(1, .int ((nI k1) + 1)), (0, .ref hm)]) hx hb dX5_putPlaces_20 hl (k := 0) rfl rfl (by decide) rfl (fun ls hl => ?_)
    refine lv_goto (tgt := 2) hx hb dX5_putPlaces_23 (by decide) ?_
    have e8 : fX5_putPlaces_L2s k1 om1 = (ua om1 1 (nI k1).toNatClampNeg ((om1.2 19) (nI k1).toNatClampNeg)) := by
      rfl
    have e7 : fX5_putPlaces_L2 om (k1 + 1) = (ua om1 1 (nI k1).toNatClampNeg ((om1.2 19) (nI k1).toNatClampNeg)) := by
      show fX5_putPlaces_L2s k1 (fX5_putPlaces_L2 om k1) = _
      rw [hs1]; exact e8
    have hl9 : lv_has ls 2 [(1, .int (nI (k1 + 1))), (0, .ref hm)] := by
      rw [nI_succ]; exact lv_sub hl [0, 1] rfl
    exact ih1 H locs ls ⟨by rw [e7]; exact hP, by rw [e7]; exact hD, hS, hl9⟩
  intro H locs ls hI9
  obtain ⟨hP, hD, hS, hl⟩ := hI9
  refine lv_iload_n hx hb dX5_putPlaces_2 rfl (lv_at hl 0 rfl) ?_
  refine lv_bipush (v := 6) hx hb dX5_putPlaces_3 (by decide) ?_
  refine lv_icmp_ge (tgt := 26) hx hb dX5_putPlaces_5 (by decide) (fun c3 => ?_) (fun c3 => absurd (nI_le (Nat.le_refl _) (by decide)) c3)
  have e9 : fX5_putPlaces om = (fX5_putPlaces_L2 om (6)) := by
    rfl
  exact W.vret hx hb hr (fun t ht hW => ⟨⟨(fX5_putPlaces_L2 om (6)), rfl, e9.symm, ⟨by rw [ht]; exact hP, hD⟩⟩, hS.F ht⟩) hS.2.2 dX5_putPlaces_26

set_option maxHeartbeats 4000000 in
set_option maxRecDepth 100000 in
theorem kX5_layPlaces (l : Launch) (D : va_G) (cI cZ cC : ClassId) (hm : Nat) (am : Nat → Nat) (om : OV) (p0 : Int32)  {sz : Nat} : Met l yX5_layPlaces wsX5_layPlaces ({ frames := 3, cells := 0, slots := 0, locals := 66 }) (pW D (tyv cI cZ cC) (wX5 cI cZ hm am om) sz [.ref hm, .int p0]) (va_Qv (fun (u : OV) => u = fX5_layPlaces om p0) (qW D (fun (u : OV) => wX5 cI cZ hm am u) (va_A (wX5 cI cZ hm am om) sz)) (va_A (wX5 cI cZ hm am om) sz)) 0 0 (va_A (wX5 cI cZ hm am om) sz) := by
  refine Met.ofW (cc := cX5_layPlaces) (maxL := 4) (ret := none) (by decide) rfl ?_
  intro p e s m args below meth c s₁ B hml hv
  obtain ⟨rfl, hsz, hP, hK, hN, hD0⟩ := hv
  have hx := B.exec
  have hb := B.bytes
  have hr := B.returns
  have hts := atoms_spec (ws := wsX5_layPlaces) B.pre
  have hown : s.vm.findClass RX5 = some m.cls := findClass_of_methodNamed B.named
  have hlocks := B.notSynchronized
  subst hsz
  have hD := hD0.self (sz := s.heap.size)
  generalize hAe : va_A (wX5 cI cZ hm am om) s.heap.size = A at hD ⊢
  have hA : ∀ q : Nat, s.heap.size ≤ q → A q := fun q h => by rw [← hAe]; exact Or.inr h
  have hS : va_S A s.heap s.heap [] := va_S.rf
  have hP : va_P D vwCl (wX5 cI cZ hm am om) s.heap := hP
  have hl := lv_entry ([.ref hm, .int p0]) (n := 4) (Nat.le_of_ble_eq_true rfl)
  rw [lg_entry_eq]
  generalize (lg_sl ([.ref hm, .int p0]) ++ List.replicate (4 - (lg_sl ([.ref hm, .int p0])).length) Slot.unset).toArray = ls at hl ⊢
  have hl : lv_has ls 4 [(0, .ref hm), (1, .int p0)] := hl
  have hSF : CallFix p m c cX5_layPlaces 4 s _ wsX5_layPlaces RX5 := ⟨hx, hb, hml, hown, hts⟩
  have hi5 : ∀ w ∈ wsX50, w ∈ wsX5_layPlaces := by decide +kernel
  have hf7 : (Cond.fieldLink RX5 7 "UmbrellaVoteModel" "placeOf" "[I").before _ s = true := hts _ (by decide +kernel)
  refine lv_iload_n hx hb dX5_layPlaces_0 rfl (lv_at hl 1 rfl) ?_
  refine lv_istore_n (lv' := [(2, .int p0), (0, .ref hm), (1, .int p0)]) hx hb dX5_layPlaces_1 rfl hl (by decide) rfl (fun ls hl => ?_)
  refine lv_iconst (v := 5) hx hb dX5_layPlaces_2 (by decide) ?_
  refine lv_istore_n (lv' := [(3, .int 5), (2, .int p0), (0, .ref hm), (1, .int p0)]) hx hb dX5_layPlaces_3 rfl hl (by decide) rfl (fun ls hl => ?_)
  refine W_lpW (6) (fun k9 H9 locs9 ls9 => va_P D vwCl (wX5 cI cZ hm am (fX5_layPlaces_L4 p0 om k9).2) H9 ∧ va_D A (wX5 cI cZ hm am (fX5_layPlaces_L4 p0 om k9).2) ∧ va_S A s.heap H9 locs9 ∧ lv_has ls9 4 [(3, .int (dn 5 k9)), (2, .int (fX5_layPlaces_L4 p0 om k9).1), (0, .ref hm), (1, .int p0)]) ⟨hP, hD, hS, lv_sub hl [0, 1, 2, 3] rfl⟩ ?_ ?_
  · intro k1 H locs ls hk1 hI9 ih1
    obtain ⟨hP, hD, hS, hl⟩ := hI9
    generalize hs1 : fX5_layPlaces_L4 p0 om k1 = y1 at hP hD hl
    obtain ⟨x2_1, om1⟩ := y1
    try dsimp only at hP hD hl
    have hP : va_P D vwCl (wX5 cI cZ hm am om1) H := hP
    have hD : va_D A (wX5 cI cZ hm am om1) := hD
    have hl : lv_has ls 4 [(3, .int (dn 5 k1)), (2, .int x2_1), (0, .ref hm), (1, .int p0)] := hl
    refine lv_iload_n hx hb dX5_layPlaces_4 rfl (lv_at hl 0 rfl) ?_
    refine lv_if_lt (tgt := 37) hx hb dX5_layPlaces_5 (by decide) (fun c2 => absurd c2 (dn_nneg hk1 (by decide))) (fun c2 => ?_)
    refine lv_aload_n hx hb dX5_layPlaces_8 rfl (lv_at hl 2 rfl) ?_
    refine lv_iload_n hx hb dX5_layPlaces_9 rfl (lv_at hl 0 rfl) ?_
    refine rcVi (b := hm) (As := [.int (dn 5 k1)]) (rest := []) hSF (kX5_isThere l D cI cZ cC hm am om1 (dn 5 k1)) (cwV 1 hts gX5_layPlaces_X5_isThere rfl rfl rfl (by decide +kernel) ⟨Nat.le_of_ble_eq_true rfl, Nat.le_of_ble_eq_true rfl⟩) (va_recv hK hP (ci := 5) (q0 := 0) rfl rfl) (hP.sub [0, 1, 2, 3, 4, 5, 6, 7, 8, 9, 10, 11] rfl) hK hN rfl rfl hl.1 (Nat.le_of_ble_eq_true rfl) dX5_layPlaces_10 ⟨Nat.zero_le _, Nat.zero_le _⟩ ?_
    refine lv_if_eq (tgt := 31) hx hb dX5_layPlaces_13 (by decide) (fun c3 => ?_) (fun c3 => ?_)
    · skip
      refine lv_iinc (v := ((dn 5 k1) + (-1))) (lv' := [(3, .int ((dn 5 k1) + (-1))), (2, .int x2_1), (0, .ref hm), (1, .int p0)]) hx hb dX5_layPlaces_31 hl (k := 0) rfl rfl (by decide) rfl (fun ls hl => ?_)
      refine lv_goto (tgt := 4) hx hb dX5_layPlaces_34 (by decide) ?_
      have e8 : fX5_layPlaces_L4s k1 x2_1 om1 = (x2_1, om1) := by
        simp only [fX5_layPlaces_L4s, if_pos c3]
      have e7 : fX5_layPlaces_L4 p0 om (k1 + 1) = (x2_1, om1) := by
        show fX5_layPlaces_L4s k1 (fX5_layPlaces_L4 p0 om k1).1 (fX5_layPlaces_L4 p0 om k1).2 = _
        rw [hs1]; exact e8
      have hl9 : lv_has ls 4 [(3, .int (dn 5 (k1 + 1))), (2, .int (fX5_layPlaces_L4 p0 om (k1 + 1)).1), (0, .ref hm), (1, .int p0)] := by
        rw [dn_succ hk1, e7]; exact lv_sub hl [0, 1, 2, 3] rfl
      exact ih1 H locs ls ⟨by rw [e7]; exact hP, by rw [e7]; exact hD, hS, hl9⟩
    · skip
      refine lv_aload_n hx hb dX5_layPlaces_16 rfl (lv_at hl 2 rfl) ?_
      refine va_get (D := D) (ci := 5) (v := .ref (am 1)) (C := RX5) (T := TX5) (N := 24) hx hb hts hi5 hown hK hP 0 rfl rfl 1 (by decide) hf7 (fun _ h9 => h9) rfl dX5_layPlaces_17 ?_
      refine lv_iload_n hx hb dX5_layPlaces_20 rfl (lv_at hl 0 rfl) ?_
      refine lv_iload_n hx hb dX5_layPlaces_21 rfl (lv_at hl 1 rfl) ?_
      refine lv_bipush (v := 10) hx hb dX5_layPlaces_22 (by decide) ?_
      refine lv_irem hx hb dX5_layPlaces_24 (by decide) ?_
      refine va_iast hx hb hK hP hD hS 1 0 rfl rfl (dn_vin hk1 (by decide) (by decide)) dX5_layPlaces_25 (fun H locs hP hD hS => ?_)
      have hP : va_P D vwCl (wX5 cI cZ hm am (ua om1 1 (dn 5 k1).toNatClampNeg (x2_1 - x2_1 / 10 * 10))) H := hP
      have hD : va_D A (wX5 cI cZ hm am (ua om1 1 (dn 5 k1).toNatClampNeg (x2_1 - x2_1 / 10 * 10))) := hD
      refine lv_iload_n hx hb dX5_layPlaces_26 rfl (lv_at hl 1 rfl) ?_
      refine lv_bipush (v := 10) hx hb dX5_layPlaces_27 (by decide) ?_
      refine lv_idiv hx hb dX5_layPlaces_29 (by decide) ?_
      refine lv_istore_n (lv' := [(2, .int (x2_1 / 10)), (3, .int (dn 5 k1)), (0, .ref hm), (1, .int p0)]) hx hb dX5_layPlaces_30 rfl hl (by decide) rfl (fun ls hl => ?_)
      refine lv_iinc (v := ((dn 5 k1) + (-1))) (lv' := [(3, .int ((dn 5 k1) + (-1))), (2, .int (x2_1 / 10)), (0, .ref hm), (1, .int p0)]) hx hb dX5_layPlaces_31 hl (k := 1) rfl rfl (by decide) rfl (fun ls hl => ?_)
      refine lv_goto (tgt := 4) hx hb dX5_layPlaces_34 (by decide) ?_
      have e8 : fX5_layPlaces_L4s k1 x2_1 om1 = ((x2_1 / 10), (ua om1 1 (dn 5 k1).toNatClampNeg (x2_1 - x2_1 / 10 * 10))) := by
        simp only [fX5_layPlaces_L4s, if_neg c3]
      have e7 : fX5_layPlaces_L4 p0 om (k1 + 1) = ((x2_1 / 10), (ua om1 1 (dn 5 k1).toNatClampNeg (x2_1 - x2_1 / 10 * 10))) := by
        show fX5_layPlaces_L4s k1 (fX5_layPlaces_L4 p0 om k1).1 (fX5_layPlaces_L4 p0 om k1).2 = _
        rw [hs1]; exact e8
      have hl9 : lv_has ls 4 [(3, .int (dn 5 (k1 + 1))), (2, .int (fX5_layPlaces_L4 p0 om (k1 + 1)).1), (0, .ref hm), (1, .int p0)] := by
        rw [dn_succ hk1, e7]; exact lv_sub hl [0, 1, 2, 3] rfl
      exact ih1 H locs ls ⟨by rw [e7]; exact hP, by rw [e7]; exact hD, hS, hl9⟩
  intro H locs ls hI9
  obtain ⟨hP, hD, hS, hl⟩ := hI9
  refine lv_iload_n hx hb dX5_layPlaces_4 rfl (lv_at hl 0 rfl) ?_
  refine lv_if_lt (tgt := 37) hx hb dX5_layPlaces_5 (by decide) (fun c4 => ?_) (fun c4 => absurd (dn_neg 5) c4)
  have e9 : fX5_layPlaces om p0 = (fX5_layPlaces_L4 p0 om (6)).2 := by
    rfl
  exact W.vret hx hb hr (fun t ht hW => ⟨⟨(fX5_layPlaces_L4 p0 om (6)).2, rfl, e9.symm, ⟨by rw [ht]; exact hP, hD⟩⟩, hS.F ht⟩) hS.2.2 dX5_layPlaces_37

set_option maxHeartbeats 4000000 in
set_option maxRecDepth 100000 in
theorem kX5_areAtRest (l : Launch) (D : va_G) (cI cZ cC : ClassId) (hm : Nat) (am : Nat → Nat) (om : OV)   {sz : Nat} : Met l yX5_areAtRest wsX5_areAtRest ({ frames := 8, cells := 0, slots := 0, locals := 189 }) (pW D (tyv cI cZ cC) (wX5 cI cZ hm am om) sz [.ref hm]) (va_Qi (fun r (u : OV) => r = (fX5_areAtRest om).1 ∧ u = (fX5_areAtRest om).2) (qW D (fun (u : OV) => wX5 cI cZ hm am u) (va_A (wX5 cI cZ hm am om) sz)) (va_A (wX5 cI cZ hm am om) sz)) 0 0 (va_A (wX5 cI cZ hm am om) sz) := by
  refine Met.ofW (cc := cX5_areAtRest) (maxL := 3) (ret := (some .boolean)) (by decide) rfl ?_
  intro p e s m args below meth c s₁ B hml hv
  obtain ⟨rfl, hsz, hP, hK, hN, hD0⟩ := hv
  have hx := B.exec
  have hb := B.bytes
  have hr := B.returns
  have hts := atoms_spec (ws := wsX5_areAtRest) B.pre
  have hown : s.vm.findClass RX5 = some m.cls := findClass_of_methodNamed B.named
  have hlocks := B.notSynchronized
  subst hsz
  have hD := hD0.self (sz := s.heap.size)
  generalize hAe : va_A (wX5 cI cZ hm am om) s.heap.size = A at hD ⊢
  have hA : ∀ q : Nat, s.heap.size ≤ q → A q := fun q h => by rw [← hAe]; exact Or.inr h
  have hS : va_S A s.heap s.heap [] := va_S.rf
  have hP : va_P D vwCl (wX5 cI cZ hm am om) s.heap := hP
  have hl := lv_entry ([.ref hm]) (n := 3) (Nat.le_of_ble_eq_true rfl)
  rw [lg_entry_eq]
  generalize (lg_sl ([.ref hm]) ++ List.replicate (3 - (lg_sl ([.ref hm])).length) Slot.unset).toArray = ls at hl ⊢
  have hl : lv_has ls 3 [(0, .ref hm)] := hl
  have hSF : CallFix p m c cX5_areAtRest 3 s _ wsX5_areAtRest RX5 := ⟨hx, hb, hml, hown, hts⟩
  have hi5 : ∀ w ∈ wsX50, w ∈ wsX5_areAtRest := by decide +kernel
  have hf164 : (Cond.fieldLink RX5 164 "UmbrellaVoteModel" "bestIs" "I").before _ s = true := hts _ (by decide +kernel)
  refine lv_iconst (v := 0) hx hb dX5_areAtRest_0 (by decide) ?_
  refine lv_istore_n (lv' := [(1, .int 0), (0, .ref hm)]) hx hb dX5_areAtRest_1 rfl hl (by decide) rfl (fun ls hl => ?_)
  refine W_ltW (σ := OV) (6) (fun r9 k9 x9 H9 locs9 ls9 => va_P D vwCl (wX5 cI cZ hm am x9) H9 ∧ va_D A (wX5 cI cZ hm am x9) ∧ va_S A s.heap H9 locs9 ∧ lv_has ls9 3 [(1, .int (nI k9)), (0, .ref hm)] ∧ fX5_areAtRest_L2 r9 k9 x9 = fX5_areAtRest_L2 (6) 0 om) om ⟨hP, hD, hS, lv_sub hl [0, 1] rfl, rfl⟩ ?_ ?_
  · intro r1 k1 y1 H locs ls hr1 hI9 ih1
    obtain ⟨hP, hD, hS, hl, hG1⟩ := hI9
    obtain ⟨om1, en1⟩ : ∃ z, z = y1 := ⟨_, rfl⟩
    subst en1
    have hP : va_P D vwCl (wX5 cI cZ hm am om1) H := hP
    have hD : va_D A (wX5 cI cZ hm am om1) := hD
    have hG1 : fX5_areAtRest_L2 (r1 + 1) k1 om1 = fX5_areAtRest_L2 (6) 0 om := hG1
    have hl : lv_has ls 3 [(1, .int (nI k1)), (0, .ref hm)] := hl
    have hk1 : k1 < 6 := by omega
    refine lv_iload_n hx hb dX5_areAtRest_2 rfl (lv_at hl 0 rfl) ?_
    refine lv_bipush (v := 6) hx hb dX5_areAtRest_3 (by decide) ?_
    refine lv_icmp_ge (tgt := 43) hx hb dX5_areAtRest_5 (by decide) (fun c2 => absurd c2 (nI_ge hk1 (by decide))) (fun c2 => ?_)
    refine lv_aload_n hx hb dX5_areAtRest_8 rfl (lv_at hl 1 rfl) ?_
    refine lv_iload_n hx hb dX5_areAtRest_9 rfl (lv_at hl 0 rfl) ?_
    refine rcVi (b := hm) (As := [.int (nI k1)]) (rest := []) hSF (kX5_isThere l D cI cZ cC hm am om1 (nI k1)) (cwV 1 hts gX5_areAtRest_X5_isThere rfl rfl rfl (by decide +kernel) ⟨Nat.le_of_ble_eq_true rfl, Nat.le_of_ble_eq_true rfl⟩) (va_recv hK hP (ci := 5) (q0 := 0) rfl rfl) (hP.sub [0, 1, 2, 3, 4, 5, 6, 7, 8, 9, 10, 11] rfl) hK hN rfl rfl hl.1 (Nat.le_of_ble_eq_true rfl) dX5_areAtRest_10 ⟨Nat.zero_le _, Nat.zero_le _⟩ ?_
    refine lv_if_eq (tgt := 37) hx hb dX5_areAtRest_13 (by decide) (fun c3 => ?_) (fun c3 => ?_)
    · skip
      refine lv_iinc (v := ((nI k1) + 1)) (lv' := [(1, .int ((nI k1) + 1)), (0, .ref hm)]) hx hb dX5_areAtRest_37 hl (k := 0) rfl rfl (by decide) rfl (fun ls hl => ?_)
      refine lv_goto (tgt := 2) hx hb dX5_areAtRest_40 (by decide) ?_
      have hl9 : lv_has ls 3 [(1, .int (nI (k1 + 1))), (0, .ref hm)] := by
        rw [nI_succ]; exact lv_sub hl [0, 1] rfl
      have e8 : fX5_areAtRest_L2 r1 (k1 + 1) om1 = fX5_areAtRest_L2 (6) 0 om := by
        rw [← hG1]
        simp only [fX5_areAtRest_L2, if_pos c3]
      exact ih1 om1 H locs ls ⟨hP, hD, hS, hl9, e8⟩
    · skip
      refine lv_aload_n hx hb dX5_areAtRest_16 rfl (lv_at hl 1 rfl) ?_
      refine lv_iload_n hx hb dX5_areAtRest_17 rfl (lv_at hl 0 rfl) ?_
      refine rcVi (b := hm) (As := [.int (nI k1)]) (rest := []) hSF (kX5_sixtieths l D cI cZ cC hm am om1 (nI k1)) (cwV 1 hts gX5_areAtRest_X5_sixtieths rfl rfl rfl (by decide +kernel) ⟨Nat.le_of_ble_eq_true rfl, Nat.le_of_ble_eq_true rfl⟩) (va_recv hK hP (ci := 5) (q0 := 0) rfl rfl) (hP.sub [0, 1, 2, 3, 4, 5, 6, 7, 8, 9, 10, 11] rfl) hK hN rfl rfl hl.1 (Nat.le_of_ble_eq_true rfl) dX5_areAtRest_18 ⟨Nat.zero_le _, Nat.zero_le _⟩ ?_
      refine lv_istore_n (lv' := [(2, .int (fX5_sixtieths om1 (nI k1))), (1, .int (nI k1)), (0, .ref hm)]) hx hb dX5_areAtRest_21 rfl hl (by decide) rfl (fun ls hl => ?_)
      refine lv_aload_n hx hb dX5_areAtRest_22 rfl (lv_at hl 2 rfl) ?_
      refine lv_iload_n hx hb dX5_areAtRest_23 rfl (lv_at hl 1 rfl) ?_
      refine wcVv (b := hm) (As := [.int (nI k1)]) (rest := []) (wr := []) (ws' := wX5 cI cZ hm am (fX5_findStand om1 (nI k1))) hSF (kX5_findStand l D cI cZ cC hm am om1 (nI k1) (vp_in_nI hk1 (by decide))) (cwV 1 hts gX5_areAtRest_X5_findStand rfl rfl rfl (by decide +kernel) ⟨Nat.le_of_ble_eq_true rfl, Nat.le_of_ble_eq_true rfl⟩) (va_recv hK hP (ci := 5) (q0 := 0) rfl rfl) hP hD hS hA hK hN [0, 1, 2, 3, 4, 5, 6, 7, 8, 9, 10, 11] [] [0, 1, 2, 3, 4, 5, 6, 7, 8, 9, 10, 11] rfl (by decide) rfl (by decide) (by decide) rfl (by decide) rfl rfl hl.1 (Nat.le_of_ble_eq_true rfl) dX5_areAtRest_24 ⟨Nat.zero_le _, Nat.zero_le _⟩ (fun H locs hP hD hS => ?_)
      refine lv_aload_n hx hb dX5_areAtRest_27 rfl (lv_at hl 2 rfl) ?_
      refine va_get (D := D) (ci := 5) (v := .int ((fX5_findStand om1 (nI k1)).1 18)) (C := RX5) (T := TX5) (N := 24) hx hb hts hi5 hown hK hP 0 rfl rfl 18 (by decide) hf164 (fun _ h9 => h9) rfl dX5_areAtRest_28 ?_
      refine lv_iload_n hx hb dX5_areAtRest_31 rfl (lv_at hl 0 rfl) ?_
      refine lv_icmp_le (tgt := 37) hx hb dX5_areAtRest_32 (by decide) (fun c4 => ?_) (fun c4 => ?_)
      · skip
        refine lv_iinc (v := ((nI k1) + 1)) (lv' := [(1, .int ((nI k1) + 1)), (2, .int (fX5_sixtieths om1 (nI k1))), (0, .ref hm)]) hx hb dX5_areAtRest_37 hl (k := 1) rfl rfl (by decide) rfl (fun ls hl => ?_)
        refine lv_goto (tgt := 2) hx hb dX5_areAtRest_40 (by decide) ?_
        have hl9 : lv_has ls 3 [(1, .int (nI (k1 + 1))), (0, .ref hm)] := by
          rw [nI_succ]; exact lv_sub hl [0, 2] rfl
        have e8 : fX5_areAtRest_L2 r1 (k1 + 1) (fX5_findStand om1 (nI k1)) = fX5_areAtRest_L2 (6) 0 om := by
          rw [← hG1]
          simp only [fX5_areAtRest_L2, if_neg c3, if_pos c4]
        exact ih1 (fX5_findStand om1 (nI k1)) H locs ls ⟨hP, hD, hS, hl9, e8⟩
      · skip
        refine lv_iconst (v := 0) hx hb dX5_areAtRest_35 (by decide) ?_
        have e9 : fX5_areAtRest om = ((0 : Int32), (fX5_findStand om1 (nI k1))) := by
          refine Eq.trans (b := fX5_areAtRest_L2 (6) 0 om) ?_ ?_
          · rfl
          · rw [← hG1]; simp only [fX5_areAtRest_L2, if_neg c3, if_neg c4]
        exact W.zret hx hb hr (nar_z (Or.inl rfl)) (fun t ht hW => ⟨⟨_, (fX5_findStand om1 (nI k1)), rfl, ⟨by rw [e9], by rw [e9]⟩, ⟨by rw [ht]; exact hP, hD⟩⟩, hS.F ht⟩) hS.2.2 dX5_areAtRest_36
  intro k1 y1 H locs ls hB1 hI9
  obtain ⟨hP, hD, hS, hl, hG1⟩ := hI9
  obtain ⟨om1, en1⟩ : ∃ z, z = y1 := ⟨_, rfl⟩
  subst en1
  have hP : va_P D vwCl (wX5 cI cZ hm am om1) H := hP
  have hD : va_D A (wX5 cI cZ hm am om1) := hD
  have hG1 : fX5_areAtRest_L2 0 k1 om1 = fX5_areAtRest_L2 (6) 0 om := hG1
  have hl : lv_has ls 3 [(1, .int (nI k1)), (0, .ref hm)] := hl
  refine lv_iload_n hx hb dX5_areAtRest_2 rfl (lv_at hl 0 rfl) ?_
  refine lv_bipush (v := 6) hx hb dX5_areAtRest_3 (by decide) ?_
  refine lv_icmp_ge (tgt := 43) hx hb dX5_areAtRest_5 (by decide) (fun c5 => ?_) (fun c5 => absurd (by rw [hB1]; exact nI_le (Nat.le_refl _) (by decide)) c5)
  refine lv_iconst (v := 1) hx hb dX5_areAtRest_43 (by decide) ?_
  have e9 : fX5_areAtRest om = ((1 : Int32), om1) := by
    refine Eq.trans (b := fX5_areAtRest_L2 (6) 0 om) ?_ ?_
    · rfl
    · rw [← hG1]; rfl
  exact W.zret hx hb hr (nar_z (Or.inr rfl)) (fun t ht hW => ⟨⟨_, om1, rfl, ⟨by rw [e9], by rw [e9]⟩, ⟨by rw [ht]; exact hP, hD⟩⟩, hS.F ht⟩) hS.2.2 dX5_areAtRest_44

set_option maxHeartbeats 4000000 in
set_option maxRecDepth 100000 in
theorem kX5_coup (l : Launch) (D : va_G) (cI cZ cC : ClassId) (hm : Nat) (am : Nat → Nat) (om : OV) (p0 : Int32)  : Met l yX5_coup wsX5_coup ({ frames := 5, cells := 0, slots := 0, locals := 114 }) (pR D (tyv cI cZ cC) (wX5 cI cZ hm am om) [.ref hm, .int p0]) (vp_Si (fun r => r = fX5_coup om p0)) 0 0 (fun _ => False) := by
  refine Met.ofW (cc := cX5_coup) (maxL := 3) (ret := (some .int)) (by decide) rfl ?_
  intro p e s m args below meth c s₁ B hml hv
  obtain ⟨rfl, hP, hK, hN⟩ := hv
  have hx := B.exec
  have hb := B.bytes
  have hr := B.returns
  have hts := atoms_spec (ws := wsX5_coup) B.pre
  have hown : s.vm.findClass RX5 = some m.cls := findClass_of_methodNamed B.named
  have hlocks := B.notSynchronized
  have hP : va_P D vwCl (wX5 cI cZ hm am om) s.heap := hP
  have hl := lv_entry ([.ref hm, .int p0]) (n := 3) (Nat.le_of_ble_eq_true rfl)
  rw [lg_entry_eq]
  generalize (lg_sl ([.ref hm, .int p0]) ++ List.replicate (3 - (lg_sl ([.ref hm, .int p0])).length) Slot.unset).toArray = ls at hl ⊢
  have hl : lv_has ls 3 [(0, .ref hm), (1, .int p0)] := hl
  have hSF : CallFix p m c cX5_coup 3 s _ wsX5_coup RX5 := ⟨hx, hb, hml, hown, hts⟩
  refine lv_aload_n hx hb dX5_coup_0 rfl (lv_at hl 0 rfl) ?_
  refine lv_iload_n hx hb dX5_coup_1 rfl (lv_at hl 1 rfl) ?_
  refine rcVi (b := hm) (As := [.int p0]) (rest := []) hSF (kX5_isThere l D cI cZ cC hm am om p0) (cwV 1 hts gX5_coup_X5_isThere rfl rfl rfl (by decide +kernel) ⟨Nat.le_of_ble_eq_true rfl, Nat.le_of_ble_eq_true rfl⟩) (va_recv hK hP (ci := 5) (q0 := 0) rfl rfl) (hP.sub [0, 1, 2, 3, 4, 5, 6, 7, 8, 9, 10, 11] rfl) hK hN rfl rfl hl.1 (Nat.le_of_ble_eq_true rfl) dX5_coup_2 ⟨Nat.zero_le _, Nat.zero_le _⟩ ?_
  refine lv_if_ne (tgt := 10) hx hb dX5_coup_5 (by decide) (fun c1 => ?_) (fun c1 => ?_)
  · skip
    refine lv_iconst (v := 0) hx hb dX5_coup_10 (by decide) ?_
    refine lv_istore_n (lv' := [(2, .int 0), (0, .ref hm), (1, .int p0)]) hx hb dX5_coup_11 rfl hl (by decide) rfl (fun ls hl => ?_)
    refine W_ltR (σ := Unit) (10) (fun r9 k9 x9 ls9 => lv_has ls9 3 [(2, .int (nI k9)), (0, .ref hm), (1, .int p0)] ∧ fX5_coup_L12 om p0 r9 k9  = fX5_coup_L12 om p0 (10) 0) () ⟨lv_sub hl [0, 1, 2] rfl, rfl⟩ ?_ ?_
    · intro r2 k2 y2 ls hr2 hI9 ih2
      obtain ⟨hl, hG2⟩ := hI9
      have hG2 : fX5_coup_L12 om p0 (r2 + 1) k2  = fX5_coup_L12 om p0 (10) 0 := hG2
      have hl : lv_has ls 3 [(2, .int (nI k2)), (0, .ref hm), (1, .int p0)] := hl
      have hk2 : k2 < 10 := by omega
      refine lv_iload_n hx hb dX5_coup_12 rfl (lv_at hl 0 rfl) ?_
      refine lv_bipush (v := 10) hx hb dX5_coup_13 (by decide) ?_
      refine lv_icmp_ge (tgt := 37) hx hb dX5_coup_15 (by decide) (fun c3 => absurd c3 (nI_ge hk2 (by decide))) (fun c3 => ?_)
      refine lv_aload_n hx hb dX5_coup_18 rfl (lv_at hl 1 rfl) ?_
      refine lv_iload_n hx hb dX5_coup_19 rfl (lv_at hl 0 rfl) ?_
      refine rcVi (b := hm) (As := [.int (nI k2)]) (rest := []) hSF (kX5_sprinkledBy l D cI cZ cC hm am om (nI k2)) (cwV 1 hts gX5_coup_X5_sprinkledBy rfl rfl rfl (by decide +kernel) ⟨Nat.le_of_ble_eq_true rfl, Nat.le_of_ble_eq_true rfl⟩) (va_recv hK hP (ci := 5) (q0 := 0) rfl rfl) (hP.sub [0, 1, 2, 3, 4, 5, 6, 7, 8, 9, 10, 11] rfl) hK hN rfl rfl hl.1 (Nat.le_of_ble_eq_true rfl) dX5_coup_20 ⟨Nat.zero_le _, Nat.zero_le _⟩ ?_
      refine lv_iconst (v := 1) hx hb dX5_coup_23 (by decide) ?_
      refine lv_iload_n hx hb dX5_coup_24 rfl (lv_at hl 2 rfl) ?_
      refine lv_ishl hx hb dX5_coup_25 ?_
      refine lv_icmp_ne (tgt := 31) hx hb dX5_coup_26 (by decide) (fun c4 => ?_) (fun c4 => ?_)
      · skip
        refine lv_iinc (v := ((nI k2) + 1)) (lv' := [(2, .int ((nI k2) + 1)), (0, .ref hm), (1, .int p0)]) hx hb dX5_coup_31 hl (k := 0) rfl rfl (by decide) rfl (fun ls hl => ?_)
        refine lv_goto (tgt := 12) hx hb dX5_coup_34 (by decide) ?_
        have hl9 : lv_has ls 3 [(2, .int (nI (k2 + 1))), (0, .ref hm), (1, .int p0)] := by
          rw [nI_succ]; exact lv_sub hl [0, 1, 2] rfl
        have e8 : fX5_coup_L12 om p0 r2 (k2 + 1) = fX5_coup_L12 om p0 (10) 0 := by
          rw [← hG2]
          simp only [fX5_coup_L12, if_neg c4]
        exact ih2 () ls ⟨hl9, e8⟩
      · skip
        refine lv_iload_n hx hb dX5_coup_29 rfl (lv_at hl 0 rfl) ?_
        have e9 : fX5_coup om p0 = (nI k2) := by
          refine Eq.trans (b := fX5_coup_L12 om p0 (10) 0) ?_ ?_
          · simp only [fX5_coup, if_neg c1]
          · rw [← hG2]; simp only [fX5_coup_L12, if_pos c4]
        exact W.iret hx hb hr (fun t ht hW => ⟨_, rfl, e9.symm, ht⟩) (fun _ h9 => absurd h9 List.not_mem_nil) dX5_coup_30
    intro k2 y2 ls hB2 hI9
    obtain ⟨hl, hG2⟩ := hI9
    have hG2 : fX5_coup_L12 om p0 0 k2  = fX5_coup_L12 om p0 (10) 0 := hG2
    have hl : lv_has ls 3 [(2, .int (nI k2)), (0, .ref hm), (1, .int p0)] := hl
    refine lv_iload_n hx hb dX5_coup_12 rfl (lv_at hl 0 rfl) ?_
    refine lv_bipush (v := 10) hx hb dX5_coup_13 (by decide) ?_
    refine lv_icmp_ge (tgt := 37) hx hb dX5_coup_15 (by decide) (fun c5 => ?_) (fun c5 => absurd (by rw [hB2]; exact nI_le (Nat.le_refl _) (by decide)) c5)
    refine lv_bipush (v := (-6)) hx hb dX5_coup_37 (by decide) ?_
    have e9 : fX5_coup om p0 = (-6) := by
      refine Eq.trans (b := fX5_coup_L12 om p0 (10) 0) ?_ ?_
      · simp only [fX5_coup, if_neg c1]
      · rw [← hG2]; rfl
    exact W.iret hx hb hr (fun t ht hW => ⟨_, rfl, e9.symm, ht⟩) (fun _ h9 => absurd h9 List.not_mem_nil) dX5_coup_39
  · skip
    refine lv_iconst (v := (-1)) hx hb dX5_coup_8 (by decide) ?_
    have e9 : fX5_coup om p0 = (-1) := by
      simp only [fX5_coup, if_pos c1]
    exact W.iret hx hb hr (fun t ht hW => ⟨_, rfl, e9.symm, ht⟩) (fun _ h9 => absurd h9 List.not_mem_nil) dX5_coup_9

set_option maxHeartbeats 4000000 in
set_option maxRecDepth 100000 in
theorem kX5_quick (l : Launch) (D : va_G) (cI cZ cC : ClassId) (hm : Nat) (am : Nat → Nat) (om : OV) (p0 : Int32) (p1 : Int32) (p2 : Int32)  {sz : Nat} : Met l yX5_quick wsX5_quick ({ frames := 7, cells := 0, slots := 0, locals := 165 }) (pW D (tyv cI cZ cC) (wX5 cI cZ hm am om) sz [.ref hm, .int p0, .int p1, .int p2]) (va_Qi (fun r (u : OV) => r = (fX5_quick om p0 p1 p2).1 ∧ u = (fX5_quick om p0 p1 p2).2) (qW D (fun (u : OV) => wX5 cI cZ hm am u) (va_A (wX5 cI cZ hm am om) sz)) (va_A (wX5 cI cZ hm am om) sz)) 0 0 (va_A (wX5 cI cZ hm am om) sz) := by
  refine Met.ofW (cc := cX5_quick) (maxL := 7) (ret := (some .int)) (by decide) rfl ?_
  intro p e s m args below meth c s₁ B hml hv
  obtain ⟨rfl, hsz, hP, hK, hN, hD0⟩ := hv
  have hx := B.exec
  have hb := B.bytes
  have hr := B.returns
  have hts := atoms_spec (ws := wsX5_quick) B.pre
  have hown : s.vm.findClass RX5 = some m.cls := findClass_of_methodNamed B.named
  have hlocks := B.notSynchronized
  subst hsz
  have hD := hD0.self (sz := s.heap.size)
  generalize hAe : va_A (wX5 cI cZ hm am om) s.heap.size = A at hD ⊢
  have hA : ∀ q : Nat, s.heap.size ≤ q → A q := fun q h => by rw [← hAe]; exact Or.inr h
  have hS : va_S A s.heap s.heap [] := va_S.rf
  have hP : va_P D vwCl (wX5 cI cZ hm am om) s.heap := hP
  have hl := lv_entry ([.ref hm, .int p0, .int p1, .int p2]) (n := 7) (Nat.le_of_ble_eq_true rfl)
  rw [lg_entry_eq]
  generalize (lg_sl ([.ref hm, .int p0, .int p1, .int p2]) ++ List.replicate (7 - (lg_sl ([.ref hm, .int p0, .int p1, .int p2])).length) Slot.unset).toArray = ls at hl ⊢
  have hl : lv_has ls 7 [(0, .ref hm), (1, .int p0), (2, .int p1), (3, .int p2)] := hl
  have hSF : CallFix p m c cX5_quick 7 s _ wsX5_quick RX5 := ⟨hx, hb, hml, hown, hts⟩
  have hi5 : ∀ w ∈ wsX50, w ∈ wsX5_quick := by decide +kernel
  have hf13 : (Cond.fieldLink RX5 13 "UmbrellaVoteModel" "slowOf" "[I").before _ s = true := hts _ (by decide +kernel)
  refine lv_aload_n hx hb dX5_quick_0 rfl (lv_at hl 0 rfl) ?_
  refine lv_iload_n hx hb dX5_quick_1 rfl (lv_at hl 1 rfl) ?_
  refine rcVi (b := hm) (As := [.int p0]) (rest := []) hSF (kX5_isThere l D cI cZ cC hm am om p0) (cwV 1 hts gX5_quick_X5_isThere rfl rfl rfl (by decide +kernel) ⟨Nat.le_of_ble_eq_true rfl, Nat.le_of_ble_eq_true rfl⟩) (va_recv hK hP (ci := 5) (q0 := 0) rfl rfl) (hP.sub [0, 1, 2, 3, 4, 5, 6, 7, 8, 9, 10, 11] rfl) hK hN rfl rfl hl.1 (Nat.le_of_ble_eq_true rfl) dX5_quick_2 ⟨Nat.zero_le _, Nat.zero_le _⟩ ?_
  refine lv_if_ne (tgt := 10) hx hb dX5_quick_5 (by decide) (fun c1 => ?_) (fun c1 => ?_)
  · skip
    refine lv_iload_n hx hb dX5_quick_10 rfl (lv_at hl 3 rfl) ?_
    refine lv_i2l hx hb dX5_quick_11 rfl ?_
    refine lv_lconst (v := 1) hx hb dX5_quick_12 (by decide) ?_
    refine lv_ldc2 (v := 100) hx hb hown (hts (.constantLong RX5 183 100) (by decide +kernel)) dX5_quick_13 ?_
    refine rcSi (As := [.long p2.toInt64, .long 1, .long 100]) (rest := []) hSF (kX5_in l D cI cZ cC p2.toInt64 1 100) (va_cwS 3 hts gX5_quick_X5_in rfl rfl rfl (by decide +kernel) ⟨Nat.le_of_ble_eq_true rfl, Nat.le_of_ble_eq_true rfl⟩) (hP.sub [] rfl) hK hN rfl rfl hl.1 (Nat.le_of_ble_eq_true rfl) dX5_quick_16 ⟨Nat.zero_le _, Nat.zero_le _⟩ ?_
    refine lv_if_eq (tgt := 33) hx hb dX5_quick_19 (by decide) (fun c2 => ?_) (fun c2 => ?_)
    · skip
      refine lv_bipush (v := (-2)) hx hb dX5_quick_33 (by decide) ?_
      have e9 : fX5_quick om p0 p1 p2 = (((-2) : Int32), om) := by
        simp only [fX5_quick, if_neg c1, if_pos c2]
      exact W.iret hx hb hr (fun t ht hW => ⟨⟨_, om, rfl, ⟨by rw [e9], by rw [e9]⟩, ⟨by rw [ht]; exact hP, hD⟩⟩, hS.F ht⟩) hS.2.2 dX5_quick_35
    · skip
      refine lv_iload_n hx hb dX5_quick_22 rfl (lv_at hl 2 rfl) ?_
      refine lv_i2l hx hb dX5_quick_23 rfl ?_
      refine lv_lconst (v := 0) hx hb dX5_quick_24 (by decide) ?_
      refine lv_iload_n hx hb dX5_quick_25 rfl (lv_at hl 3 rfl) ?_
      refine lv_i2l hx hb dX5_quick_26 rfl ?_
      refine rcSi (As := [.long p1.toInt64, .long 0, .long p2.toInt64]) (rest := []) hSF (kX5_in l D cI cZ cC p1.toInt64 0 p2.toInt64) (va_cwS 3 hts gX5_quick_X5_in rfl rfl rfl (by decide +kernel) ⟨Nat.le_of_ble_eq_true rfl, Nat.le_of_ble_eq_true rfl⟩) (hP.sub [] rfl) hK hN rfl rfl hl.1 (Nat.le_of_ble_eq_true rfl) dX5_quick_27 ⟨Nat.zero_le _, Nat.zero_le _⟩ ?_
      refine lv_if_ne (tgt := 36) hx hb dX5_quick_30 (by decide) (fun c3 => ?_) (fun c3 => ?_)
      · skip
        refine lv_aload_n hx hb dX5_quick_36 rfl (lv_at hl 0 rfl) ?_
        refine va_get (D := D) (ci := 5) (v := .ref (am 2)) (C := RX5) (T := TX5) (N := 24) hx hb hts hi5 hown hK hP 0 rfl rfl 2 (by decide) hf13 (fun _ h9 => h9) rfl dX5_quick_37 ?_
        refine lv_iload_n hx hb dX5_quick_40 rfl (lv_at hl 1 rfl) ?_
        refine va_iald (f := (om.2 2)) hx hb hK hP 2 0 rfl rfl (it5 (by with_reducible assumption)) dX5_quick_41 ?_
        refine lv_istore (lv' := [(4, .int ((om.2 2) p0.toNatClampNeg)), (0, .ref hm), (1, .int p0), (2, .int p1), (3, .int p2)]) hx hb dX5_quick_42 hl (by decide) rfl (fun ls hl => ?_)
        refine lv_bipush (v := (-6)) hx hb dX5_quick_44 (by decide) ?_
        refine lv_istore (lv' := [(5, .int (-6)), (4, .int ((om.2 2) p0.toNatClampNeg)), (0, .ref hm), (1, .int p0), (2, .int p1), (3, .int p2)]) hx hb dX5_quick_46 hl (by decide) rfl (fun ls hl => ?_)
        refine lv_iconst (v := 0) hx hb dX5_quick_48 (by decide) ?_
        refine lv_istore (lv' := [(6, .int 0), (5, .int (-6)), (4, .int ((om.2 2) p0.toNatClampNeg)), (0, .ref hm), (1, .int p0), (2, .int p1), (3, .int p2)]) hx hb dX5_quick_49 hl (by decide) rfl (fun ls hl => ?_)
        refine W_lpW (10) (fun k9 H9 locs9 ls9 => va_P D vwCl (wX5 cI cZ hm am (fX5_quick_L51 p0 p1 p2 (-6) om k9).2) H9 ∧ va_D A (wX5 cI cZ hm am (fX5_quick_L51 p0 p1 p2 (-6) om k9).2) ∧ va_S A s.heap H9 locs9 ∧ lv_has ls9 7 [(6, .int (nI k9)), (5, .int (fX5_quick_L51 p0 p1 p2 (-6) om k9).1), (4, .int ((om.2 2) p0.toNatClampNeg)), (0, .ref hm), (1, .int p0), (2, .int p1), (3, .int p2)]) ⟨hP, hD, hS, lv_sub hl [0, 1, 2, 3, 4, 5, 6] rfl⟩ ?_ ?_
        · intro k4 H locs ls hk4 hI9 ih4
          obtain ⟨hP, hD, hS, hl⟩ := hI9
          generalize hs4 : fX5_quick_L51 p0 p1 p2 (-6) om k4 = y4 at hP hD hl
          obtain ⟨x5_4, om4⟩ := y4
          try dsimp only at hP hD hl
          have hP : va_P D vwCl (wX5 cI cZ hm am om4) H := hP
          have hD : va_D A (wX5 cI cZ hm am om4) := hD
          have hl : lv_has ls 7 [(6, .int (nI k4)), (5, .int x5_4), (4, .int ((om.2 2) p0.toNatClampNeg)), (0, .ref hm), (1, .int p0), (2, .int p1), (3, .int p2)] := hl
          refine lv_iload hx hb dX5_quick_51 (lv_at hl 0 rfl) ?_
          refine lv_bipush (v := 10) hx hb dX5_quick_53 (by decide) ?_
          refine lv_icmp_ge (tgt := 100) hx hb dX5_quick_55 (by decide) (fun c5 => absurd c5 (nI_ge hk4 (by decide))) (fun c5 => ?_)
          refine lv_aload_n hx hb dX5_quick_58 rfl (lv_at hl 3 rfl) ?_
          refine va_get (D := D) (ci := 5) (v := .ref (am 2)) (C := RX5) (T := TX5) (N := 24) hx hb hts hi5 hown hK hP 0 rfl rfl 2 (by decide) hf13 (fun _ h9 => h9) rfl dX5_quick_59 ?_
          refine lv_iload_n hx hb dX5_quick_62 rfl (lv_at hl 4 rfl) ?_
          refine lv_iload hx hb dX5_quick_63 (lv_at hl 0 rfl) ?_
          refine va_iast hx hb hK hP hD hS 2 0 rfl rfl (it5 (by with_reducible assumption)) dX5_quick_65 (fun H locs hP hD hS => ?_)
          have hP : va_P D vwCl (wX5 cI cZ hm am (ua om4 2 p0.toNatClampNeg (nI k4))) H := hP
          have hD : va_D A (wX5 cI cZ hm am (ua om4 2 p0.toNatClampNeg (nI k4))) := hD
          refine lv_aload_n hx hb dX5_quick_66 rfl (lv_at hl 3 rfl) ?_
          refine lv_iload_n hx hb dX5_quick_67 rfl (lv_at hl 4 rfl) ?_
          refine rcVi (b := hm) (As := [.int p0]) (rest := []) hSF (kX5_sixtieths l D cI cZ cC hm am (ua om4 2 p0.toNatClampNeg (nI k4)) p0) (cwV 1 hts gX5_quick_X5_sixtieths rfl rfl rfl (by decide +kernel) ⟨Nat.le_of_ble_eq_true rfl, Nat.le_of_ble_eq_true rfl⟩) (va_recv hK hP (ci := 5) (q0 := 0) rfl rfl) (hP.sub [0, 1, 2, 3, 4, 5, 6, 7, 8, 9, 10, 11] rfl) hK hN rfl rfl hl.1 (Nat.le_of_ble_eq_true rfl) dX5_quick_68 ⟨Nat.zero_le _, Nat.zero_le _⟩ ?_
          refine lv_iload_n hx hb dX5_quick_71 rfl (lv_at hl 6 rfl) ?_
          refine lv_imul hx hb dX5_quick_72 ?_
          refine lv_iload_n hx hb dX5_quick_73 rfl (lv_at hl 5 rfl) ?_
          refine lv_bipush (v := 60) hx hb dX5_quick_74 (by decide) ?_
          refine lv_imul hx hb dX5_quick_76 ?_
          refine lv_aload_n hx hb dX5_quick_77 rfl (lv_at hl 3 rfl) ?_
          refine rcVi (b := hm) (As := []) (rest := [.int (p1 * 60), .int ((fX5_sixtieths (ua om4 2 p0.toNatClampNeg (nI k4)) p0) * p2)]) hSF (kX5_weights l D cI cZ cC hm am (ua om4 2 p0.toNatClampNeg (nI k4))) (cwV 0 hts gX5_quick_X5_weights rfl rfl rfl (by decide +kernel) ⟨Nat.le_of_ble_eq_true rfl, Nat.le_of_ble_eq_true rfl⟩) (va_recv hK hP (ci := 5) (q0 := 0) rfl rfl) (hP.sub [0, 1, 2, 3, 4, 5, 6, 7, 8, 9, 10, 11] rfl) hK hN rfl rfl hl.1 (Nat.le_of_ble_eq_true rfl) dX5_quick_78 ⟨Nat.zero_le _, Nat.zero_le _⟩ ?_
          refine lv_imul hx hb dX5_quick_81 ?_
          refine W_itei (P := ((fX5_sixtieths (ua om4 2 p0.toNatClampNeg (nI k4)) p0) * p2) < ((p1 * 60) * (fX5_weights (ua om4 2 p0.toNatClampNeg (nI k4))))) (a := x5_4) (b := (nI k4)) (J := 92) (ls9 := ls) (rest9 := []) (fun ja7 jb7 => ?_) ?_
          · refine lv_icmp_lt (tgt := 90) hx hb dX5_quick_82 (by decide) (fun c6 => ?_) (fun c6 => ?_)
            · skip
              refine lv_iload hx hb dX5_quick_90 (lv_at hl 1 rfl) ?_
              exact ja7 c6
            · skip
              refine lv_iload hx hb dX5_quick_85 (lv_at hl 0 rfl) ?_
              refine lv_goto (tgt := 92) hx hb dX5_quick_87 (by decide) ?_
              exact jb7 c6
          refine lv_topi (fun x8 ex8 => ?_)
          refine lv_istore (lv' := [(5, .int x8), (6, .int (nI k4)), (4, .int ((om.2 2) p0.toNatClampNeg)), (0, .ref hm), (1, .int p0), (2, .int p1), (3, .int p2)]) hx hb dX5_quick_92 hl (by decide) rfl (fun ls hl => ?_)
          refine lv_iinc (v := ((nI k4) + 1)) (lv' := [(6, .int ((nI k4) + 1)), (5, .int x8), (4, .int ((om.2 2) p0.toNatClampNeg)), (0, .ref hm), (1, .int p0), (2, .int p1), (3, .int p2)]) hx hb dX5_quick_94 hl (k := 1) rfl rfl (by decide) rfl (fun ls hl => ?_)
          refine lv_goto (tgt := 51) hx hb dX5_quick_97 (by decide) ?_
          have e8 : fX5_quick_L51s p0 p1 p2 k4 x5_4 om4 = (x8, (ua om4 2 p0.toNatClampNeg (nI k4))) := by
            unfold fX5_quick_L51s
            rw [← ex8]
            rfl
          have e7 : fX5_quick_L51 p0 p1 p2 (-6) om (k4 + 1) = (x8, (ua om4 2 p0.toNatClampNeg (nI k4))) := by
            show fX5_quick_L51s p0 p1 p2 k4 (fX5_quick_L51 p0 p1 p2 (-6) om k4).1 (fX5_quick_L51 p0 p1 p2 (-6) om k4).2 = _
            rw [hs4]; exact e8
          have hl9 : lv_has ls 7 [(6, .int (nI (k4 + 1))), (5, .int (fX5_quick_L51 p0 p1 p2 (-6) om (k4 + 1)).1), (4, .int ((om.2 2) p0.toNatClampNeg)), (0, .ref hm), (1, .int p0), (2, .int p1), (3, .int p2)] := by
            rw [nI_succ, e7]; exact lv_sub hl [0, 1, 2, 3, 4, 5, 6] rfl
          exact ih4 H locs ls ⟨by rw [e7]; exact hP, by rw [e7]; exact hD, hS, hl9⟩
        intro H locs ls hI9
        obtain ⟨hP, hD, hS, hl⟩ := hI9
        refine lv_iload hx hb dX5_quick_51 (lv_at hl 0 rfl) ?_
        refine lv_bipush (v := 10) hx hb dX5_quick_53 (by decide) ?_
        refine lv_icmp_ge (tgt := 100) hx hb dX5_quick_55 (by decide) (fun c9 => ?_) (fun c9 => absurd (nI_le (Nat.le_refl _) (by decide)) c9)
        refine lv_aload_n hx hb dX5_quick_100 rfl (lv_at hl 3 rfl) ?_
        refine va_get (D := D) (ci := 5) (v := .ref (am 2)) (C := RX5) (T := TX5) (N := 24) hx hb hts hi5 hown hK hP 0 rfl rfl 2 (by decide) hf13 (fun _ h9 => h9) rfl dX5_quick_101 ?_
        refine lv_iload_n hx hb dX5_quick_104 rfl (lv_at hl 4 rfl) ?_
        refine lv_iload hx hb dX5_quick_105 (lv_at hl 2 rfl) ?_
        refine va_iast hx hb hK hP hD hS 2 0 rfl rfl (it5 (by with_reducible assumption)) dX5_quick_107 (fun H locs hP hD hS => ?_)
        rw [sw_m_m_a2] at hP hD
        have hP : va_P D vwCl (wX5 cI cZ hm am (ua (fX5_quick_L51 p0 p1 p2 (-6) om (10)).2 2 p0.toNatClampNeg ((om.2 2) p0.toNatClampNeg))) H := hP
        have hD : va_D A (wX5 cI cZ hm am (ua (fX5_quick_L51 p0 p1 p2 (-6) om (10)).2 2 p0.toNatClampNeg ((om.2 2) p0.toNatClampNeg))) := hD
        refine lv_iload hx hb dX5_quick_108 (lv_at hl 1 rfl) ?_
        have e9 : fX5_quick om p0 p1 p2 = ((fX5_quick_L51 p0 p1 p2 (-6) om (10)).1, (ua (fX5_quick_L51 p0 p1 p2 (-6) om (10)).2 2 p0.toNatClampNeg ((om.2 2) p0.toNatClampNeg))) := by
          simp only [fX5_quick, if_neg c1, if_neg c2, if_neg c3]
        exact W.iret hx hb hr (fun t ht hW => ⟨⟨_, (ua (fX5_quick_L51 p0 p1 p2 (-6) om (10)).2 2 p0.toNatClampNeg ((om.2 2) p0.toNatClampNeg)), rfl, ⟨by rw [e9], by rw [e9]⟩, ⟨by rw [ht]; exact hP, hD⟩⟩, hS.F ht⟩) hS.2.2 dX5_quick_110
      · skip
        refine lv_bipush (v := (-2)) hx hb dX5_quick_33 (by decide) ?_
        have e9 : fX5_quick om p0 p1 p2 = (((-2) : Int32), om) := by
          simp only [fX5_quick, if_neg c1, if_neg c2, if_pos c3]
        exact W.iret hx hb hr (fun t ht hW => ⟨⟨_, om, rfl, ⟨by rw [e9], by rw [e9]⟩, ⟨by rw [ht]; exact hP, hD⟩⟩, hS.F ht⟩) hS.2.2 dX5_quick_35
  · skip
    refine lv_iconst (v := (-1)) hx hb dX5_quick_8 (by decide) ?_
    have e9 : fX5_quick om p0 p1 p2 = (((-1) : Int32), om) := by
      simp only [fX5_quick, if_pos c1]
    exact W.iret hx hb hr (fun t ht hW => ⟨⟨_, om, rfl, ⟨by rw [e9], by rw [e9]⟩, ⟨by rw [ht]; exact hP, hD⟩⟩, hS.F ht⟩) hS.2.2 dX5_quick_9

set_option maxHeartbeats 4000000 in
set_option maxRecDepth 100000 in
theorem kX5_seen (l : Launch) (D : va_G) (cI cZ cC : ClassId) (hm : Nat) (am : Nat → Nat) (om : OV) (p0 : Int32) (p1 : Int32) (hn : (om.1 11).toNatClampNeg ≤ 6 ∧ om.1 11 = nI (om.1 11).toNatClampNeg) {sz : Nat} : Met l yX5_seen wsX5_seen ({ frames := 2, cells := 0, slots := 0, locals := 45 }) (pW D (tyv cI cZ cC) (wX5 cI cZ hm am om) sz [.ref hm, .int p0, .int p1]) (va_Qi (fun r (u : OV) => r = (fX5_seen om p0 p1).1 ∧ u = (fX5_seen om p0 p1).2) (qW D (fun (u : OV) => wX5 cI cZ hm am u) (va_A (wX5 cI cZ hm am om) sz)) (va_A (wX5 cI cZ hm am om) sz)) 0 0 (va_A (wX5 cI cZ hm am om) sz) := by
  refine Met.ofW (cc := cX5_seen) (maxL := 3) (ret := (some .int)) (by decide) rfl ?_
  intro p e s m args below meth c s₁ B hml hv
  obtain ⟨rfl, hsz, hP, hK, hN, hD0⟩ := hv
  have hx := B.exec
  have hb := B.bytes
  have hr := B.returns
  have hts := atoms_spec (ws := wsX5_seen) B.pre
  have hown : s.vm.findClass RX5 = some m.cls := findClass_of_methodNamed B.named
  have hlocks := B.notSynchronized
  subst hsz
  have hD := hD0.self (sz := s.heap.size)
  generalize hAe : va_A (wX5 cI cZ hm am om) s.heap.size = A at hD ⊢
  have hA : ∀ q : Nat, s.heap.size ≤ q → A q := fun q h => by rw [← hAe]; exact Or.inr h
  have hS : va_S A s.heap s.heap [] := va_S.rf
  have hP : va_P D vwCl (wX5 cI cZ hm am om) s.heap := hP
  have hl := lv_entry ([.ref hm, .int p0, .int p1]) (n := 3) (Nat.le_of_ble_eq_true rfl)
  rw [lg_entry_eq]
  generalize (lg_sl ([.ref hm, .int p0, .int p1]) ++ List.replicate (3 - (lg_sl ([.ref hm, .int p0, .int p1])).length) Slot.unset).toArray = ls at hl ⊢
  have hl : lv_has ls 3 [(0, .ref hm), (1, .int p0), (2, .int p1)] := hl
  have hSF : CallFix p m c cX5_seen 3 s _ wsX5_seen RX5 := ⟨hx, hb, hml, hown, hts⟩
  have hi5 : ∀ w ∈ wsX50, w ∈ wsX5_seen := by decide +kernel
  have hf189 : (Cond.fieldLink RX5 189 "UmbrellaVoteModel" "sights" "I").before _ s = true := hts _ (by decide +kernel)
  have hf22 : (Cond.fieldLink RX5 22 "UmbrellaVoteModel" "sightHow" "[I").before _ s = true := hts _ (by decide +kernel)
  have hf25 : (Cond.fieldLink RX5 25 "UmbrellaVoteModel" "sightOf" "[I").before _ s = true := hts _ (by decide +kernel)
  refine lv_iload_n hx hb dX5_seen_0 rfl (lv_at hl 1 rfl) ?_
  refine lv_i2l hx hb dX5_seen_1 rfl ?_
  refine lv_lconst (v := 1) hx hb dX5_seen_2 (by decide) ?_
  refine lv_ldc2 (v := 2) hx hb hown (hts (.constantLong RX5 185 2) (by decide +kernel)) dX5_seen_3 ?_
  refine rcSi (As := [.long p0.toInt64, .long 1, .long 2]) (rest := []) hSF (kX5_in l D cI cZ cC p0.toInt64 1 2) (va_cwS 3 hts gX5_seen_X5_in rfl rfl rfl (by decide +kernel) ⟨Nat.le_of_ble_eq_true rfl, Nat.le_of_ble_eq_true rfl⟩) (hP.sub [] rfl) hK hN rfl rfl hl.1 (Nat.le_of_ble_eq_true rfl) dX5_seen_6 ⟨Nat.zero_le _, Nat.zero_le _⟩ ?_
  refine lv_if_eq (tgt := 21) hx hb dX5_seen_9 (by decide) (fun c1 => ?_) (fun c1 => ?_)
  · skip
    refine lv_iload_n hx hb dX5_seen_21 rfl (lv_at hl 1 rfl) ?_
    refine lv_i2l hx hb dX5_seen_22 rfl ?_
    refine lv_lconst (v := 0) hx hb dX5_seen_23 (by decide) ?_
    refine lv_ldc2 (v := 2) hx hb hown (hts (.constantLong RX5 185 2) (by decide +kernel)) dX5_seen_24 ?_
    refine rcSi (As := [.long p0.toInt64, .long 0, .long 2]) (rest := []) hSF (kX5_in l D cI cZ cC p0.toInt64 0 2) (va_cwS 3 hts gX5_seen_X5_in rfl rfl rfl (by decide +kernel) ⟨Nat.le_of_ble_eq_true rfl, Nat.le_of_ble_eq_true rfl⟩) (hP.sub [] rfl) hK hN rfl rfl hl.1 (Nat.le_of_ble_eq_true rfl) dX5_seen_27 ⟨Nat.zero_le _, Nat.zero_le _⟩ ?_
    refine lv_if_eq (tgt := 49) hx hb dX5_seen_30 (by decide) (fun c2 => ?_) (fun c2 => ?_)
    · skip
      refine lv_bipush (v := (-2)) hx hb dX5_seen_49 (by decide) ?_
      have e9 : fX5_seen om p0 p1 = (((-2) : Int32), om) := by
        simp only [fX5_seen, if_pos c1, if_pos c2]
      exact W.iret hx hb hr (fun t ht hW => ⟨⟨_, om, rfl, ⟨by rw [e9], by rw [e9]⟩, ⟨by rw [ht]; exact hP, hD⟩⟩, hS.F ht⟩) hS.2.2 dX5_seen_51
    · skip
      refine lv_iload_n hx hb dX5_seen_33 rfl (lv_at hl 1 rfl) ?_
      refine lv_if_ne (tgt := 52) hx hb dX5_seen_34 (by decide) (fun c3 => ?_) (fun c3 => ?_)
      · skip
        refine lv_aload_n hx hb dX5_seen_52 rfl (lv_at hl 0 rfl) ?_
        refine va_get (D := D) (ci := 5) (v := .int (om.1 11)) (C := RX5) (T := TX5) (N := 24) hx hb hts hi5 hown hK hP 0 rfl rfl 11 (by decide) hf189 (fun _ h9 => h9) rfl dX5_seen_53 ?_
        refine lv_bipush (v := 6) hx hb dX5_seen_56 (by decide) ?_
        refine lv_icmp_ne (tgt := 64) hx hb dX5_seen_58 (by decide) (fun c4 => ?_) (fun c4 => ?_)
        · skip
          refine lv_aload_n hx hb dX5_seen_64 rfl (lv_at hl 0 rfl) ?_
          refine va_get (D := D) (ci := 5) (v := .ref (am 9)) (C := RX5) (T := TX5) (N := 24) hx hb hts hi5 hown hK hP 0 rfl rfl 9 (by decide) hf22 (fun _ h9 => h9) rfl dX5_seen_65 ?_
          refine lv_aload_n hx hb dX5_seen_68 rfl (lv_at hl 0 rfl) ?_
          refine va_get (D := D) (ci := 5) (v := .int (om.1 11)) (C := RX5) (T := TX5) (N := 24) hx hb hts hi5 hown hK hP 0 rfl rfl 11 (by decide) hf189 (fun _ h9 => h9) rfl dX5_seen_69 ?_
          refine lv_iload_n hx hb dX5_seen_72 rfl (lv_at hl 1 rfl) ?_
          refine va_iast hx hb hK hP hD hS 5 0 rfl rfl (sn_in hn (by with_reducible assumption)) dX5_seen_73 (fun H locs hP hD hS => ?_)
          have hP : va_P D vwCl (wX5 cI cZ hm am (ua om 9 (om.1 11).toNatClampNeg p0)) H := hP
          have hD : va_D A (wX5 cI cZ hm am (ua om 9 (om.1 11).toNatClampNeg p0)) := hD
          refine lv_aload_n hx hb dX5_seen_74 rfl (lv_at hl 0 rfl) ?_
          refine va_get (D := D) (ci := 5) (v := .ref (am 10)) (C := RX5) (T := TX5) (N := 24) hx hb hts hi5 hown hK hP 0 rfl rfl 10 (by decide) hf25 (fun _ h9 => h9) rfl dX5_seen_75 ?_
          refine lv_aload_n hx hb dX5_seen_78 rfl (lv_at hl 0 rfl) ?_
          refine va_get (D := D) (ci := 5) (v := .int (om.1 11)) (C := RX5) (T := TX5) (N := 24) hx hb hts hi5 hown hK hP 0 rfl rfl 11 (by decide) hf189 (fun _ h9 => h9) rfl dX5_seen_79 ?_
          refine lv_iload_n hx hb dX5_seen_82 rfl (lv_at hl 2 rfl) ?_
          refine va_iast hx hb hK hP hD hS 6 0 rfl rfl (sn_in hn (by with_reducible assumption)) dX5_seen_83 (fun H locs hP hD hS => ?_)
          rw [sw_m_m_a10] at hP hD
          have hP : va_P D vwCl (wX5 cI cZ hm am (ua (ua om 9 (om.1 11).toNatClampNeg p0) 10 (om.1 11).toNatClampNeg p1)) H := hP
          have hD : va_D A (wX5 cI cZ hm am (ua (ua om 9 (om.1 11).toNatClampNeg p0) 10 (om.1 11).toNatClampNeg p1)) := hD
          refine lv_aload_n hx hb dX5_seen_84 rfl (lv_at hl 0 rfl) ?_
          refine lv_dup hx hb dX5_seen_85 rfl ?_
          refine va_get (D := D) (ci := 5) (v := .int (om.1 11)) (C := RX5) (T := TX5) (N := 24) hx hb hts hi5 hown hK hP 0 rfl rfl 11 (by decide) hf189 (fun _ h9 => h9) rfl dX5_seen_86 ?_
          refine lv_iconst (v := 1) hx hb dX5_seen_89 (by decide) ?_
          refine lv_iadd hx hb dX5_seen_90 ?_
          refine va_put (D := D) (ci := 5) (v := .int ((om.1 11) + 1)) (ty := .int) (C := RX5) (T := TX5) (N := 24) hx hb hts hi5 tyX5 tyX5_ok nmX5 hown hK hP hD hS 0 rfl rfl 11 (by decide) hf189 (fun _ h9 => h9) rfl (by decide +kernel) rfl rfl (Nat.le_of_ble_eq_true rfl) dX5_seen_91 (fun H locs hP hD hS => ?_)
          rw [sw_m_m_s11] at hP hD
          have hP : va_P D vwCl (wX5 cI cZ hm am (us (ua (ua om 9 (om.1 11).toNatClampNeg p0) 10 (om.1 11).toNatClampNeg p1) 11 ((om.1 11) + 1))) H := hP
          have hD : va_D A (wX5 cI cZ hm am (us (ua (ua om 9 (om.1 11).toNatClampNeg p0) 10 (om.1 11).toNatClampNeg p1) 11 ((om.1 11) + 1))) := hD
          refine lv_aload_n hx hb dX5_seen_94 rfl (lv_at hl 0 rfl) ?_
          refine va_get (D := D) (ci := 5) (v := .int ((om.1 11) + 1)) (C := RX5) (T := TX5) (N := 24) hx hb hts hi5 hown hK hP 0 rfl rfl 11 (by decide) hf189 (fun _ h9 => h9) rfl dX5_seen_95 ?_
          have e9 : fX5_seen om p0 p1 = (((om.1 11) + 1), (us (ua (ua om 9 (om.1 11).toNatClampNeg p0) 10 (om.1 11).toNatClampNeg p1) 11 ((om.1 11) + 1))) := by
            simp only [fX5_seen, if_pos c1, if_neg c2, if_neg c3, if_neg c4]
          exact W.iret hx hb hr (fun t ht hW => ⟨⟨_, (us (ua (ua om 9 (om.1 11).toNatClampNeg p0) 10 (om.1 11).toNatClampNeg p1) 11 ((om.1 11) + 1)), rfl, ⟨by rw [e9], by rw [e9]⟩, ⟨by rw [ht]; exact hP, hD⟩⟩, hS.F ht⟩) hS.2.2 dX5_seen_98
        · skip
          refine lv_bipush (v := (-4)) hx hb dX5_seen_61 (by decide) ?_
          have e9 : fX5_seen om p0 p1 = (((-4) : Int32), om) := by
            simp only [fX5_seen, if_pos c1, if_neg c2, if_neg c3, if_pos c4]
          exact W.iret hx hb hr (fun t ht hW => ⟨⟨_, om, rfl, ⟨by rw [e9], by rw [e9]⟩, ⟨by rw [ht]; exact hP, hD⟩⟩, hS.F ht⟩) hS.2.2 dX5_seen_63
      · skip
        refine lv_iload_n hx hb dX5_seen_37 rfl (lv_at hl 2 rfl) ?_
        refine lv_i2l hx hb dX5_seen_38 rfl ?_
        refine lv_lconst (v := 0) hx hb dX5_seen_39 (by decide) ?_
        refine lv_ldc2 (v := 63) hx hb hown (hts (.constantLong RX5 187 63) (by decide +kernel)) dX5_seen_40 ?_
        refine rcSi (As := [.long p1.toInt64, .long 0, .long 63]) (rest := []) hSF (kX5_in l D cI cZ cC p1.toInt64 0 63) (va_cwS 3 hts gX5_seen_X5_in rfl rfl rfl (by decide +kernel) ⟨Nat.le_of_ble_eq_true rfl, Nat.le_of_ble_eq_true rfl⟩) (hP.sub [] rfl) hK hN rfl rfl hl.1 (Nat.le_of_ble_eq_true rfl) dX5_seen_43 ⟨Nat.zero_le _, Nat.zero_le _⟩ ?_
        refine lv_if_ne (tgt := 52) hx hb dX5_seen_46 (by decide) (fun c5 => ?_) (fun c5 => ?_)
        · skip
          refine lv_aload_n hx hb dX5_seen_52 rfl (lv_at hl 0 rfl) ?_
          refine va_get (D := D) (ci := 5) (v := .int (om.1 11)) (C := RX5) (T := TX5) (N := 24) hx hb hts hi5 hown hK hP 0 rfl rfl 11 (by decide) hf189 (fun _ h9 => h9) rfl dX5_seen_53 ?_
          refine lv_bipush (v := 6) hx hb dX5_seen_56 (by decide) ?_
          refine lv_icmp_ne (tgt := 64) hx hb dX5_seen_58 (by decide) (fun c6 => ?_) (fun c6 => ?_)
          · skip
            refine lv_aload_n hx hb dX5_seen_64 rfl (lv_at hl 0 rfl) ?_
            refine va_get (D := D) (ci := 5) (v := .ref (am 9)) (C := RX5) (T := TX5) (N := 24) hx hb hts hi5 hown hK hP 0 rfl rfl 9 (by decide) hf22 (fun _ h9 => h9) rfl dX5_seen_65 ?_
            refine lv_aload_n hx hb dX5_seen_68 rfl (lv_at hl 0 rfl) ?_
            refine va_get (D := D) (ci := 5) (v := .int (om.1 11)) (C := RX5) (T := TX5) (N := 24) hx hb hts hi5 hown hK hP 0 rfl rfl 11 (by decide) hf189 (fun _ h9 => h9) rfl dX5_seen_69 ?_
            refine lv_iload_n hx hb dX5_seen_72 rfl (lv_at hl 1 rfl) ?_
            refine va_iast hx hb hK hP hD hS 5 0 rfl rfl (sn_in hn (by with_reducible assumption)) dX5_seen_73 (fun H locs hP hD hS => ?_)
            have hP : va_P D vwCl (wX5 cI cZ hm am (ua om 9 (om.1 11).toNatClampNeg p0)) H := hP
            have hD : va_D A (wX5 cI cZ hm am (ua om 9 (om.1 11).toNatClampNeg p0)) := hD
            refine lv_aload_n hx hb dX5_seen_74 rfl (lv_at hl 0 rfl) ?_
            refine va_get (D := D) (ci := 5) (v := .ref (am 10)) (C := RX5) (T := TX5) (N := 24) hx hb hts hi5 hown hK hP 0 rfl rfl 10 (by decide) hf25 (fun _ h9 => h9) rfl dX5_seen_75 ?_
            refine lv_aload_n hx hb dX5_seen_78 rfl (lv_at hl 0 rfl) ?_
            refine va_get (D := D) (ci := 5) (v := .int (om.1 11)) (C := RX5) (T := TX5) (N := 24) hx hb hts hi5 hown hK hP 0 rfl rfl 11 (by decide) hf189 (fun _ h9 => h9) rfl dX5_seen_79 ?_
            refine lv_iload_n hx hb dX5_seen_82 rfl (lv_at hl 2 rfl) ?_
            refine va_iast hx hb hK hP hD hS 6 0 rfl rfl (sn_in hn (by with_reducible assumption)) dX5_seen_83 (fun H locs hP hD hS => ?_)
            rw [sw_m_m_a10] at hP hD
            have hP : va_P D vwCl (wX5 cI cZ hm am (ua (ua om 9 (om.1 11).toNatClampNeg p0) 10 (om.1 11).toNatClampNeg p1)) H := hP
            have hD : va_D A (wX5 cI cZ hm am (ua (ua om 9 (om.1 11).toNatClampNeg p0) 10 (om.1 11).toNatClampNeg p1)) := hD
            refine lv_aload_n hx hb dX5_seen_84 rfl (lv_at hl 0 rfl) ?_
            refine lv_dup hx hb dX5_seen_85 rfl ?_
            refine va_get (D := D) (ci := 5) (v := .int (om.1 11)) (C := RX5) (T := TX5) (N := 24) hx hb hts hi5 hown hK hP 0 rfl rfl 11 (by decide) hf189 (fun _ h9 => h9) rfl dX5_seen_86 ?_
            refine lv_iconst (v := 1) hx hb dX5_seen_89 (by decide) ?_
            refine lv_iadd hx hb dX5_seen_90 ?_
            refine va_put (D := D) (ci := 5) (v := .int ((om.1 11) + 1)) (ty := .int) (C := RX5) (T := TX5) (N := 24) hx hb hts hi5 tyX5 tyX5_ok nmX5 hown hK hP hD hS 0 rfl rfl 11 (by decide) hf189 (fun _ h9 => h9) rfl (by decide +kernel) rfl rfl (Nat.le_of_ble_eq_true rfl) dX5_seen_91 (fun H locs hP hD hS => ?_)
            rw [sw_m_m_s11] at hP hD
            have hP : va_P D vwCl (wX5 cI cZ hm am (us (ua (ua om 9 (om.1 11).toNatClampNeg p0) 10 (om.1 11).toNatClampNeg p1) 11 ((om.1 11) + 1))) H := hP
            have hD : va_D A (wX5 cI cZ hm am (us (ua (ua om 9 (om.1 11).toNatClampNeg p0) 10 (om.1 11).toNatClampNeg p1) 11 ((om.1 11) + 1))) := hD
            refine lv_aload_n hx hb dX5_seen_94 rfl (lv_at hl 0 rfl) ?_
            refine va_get (D := D) (ci := 5) (v := .int ((om.1 11) + 1)) (C := RX5) (T := TX5) (N := 24) hx hb hts hi5 hown hK hP 0 rfl rfl 11 (by decide) hf189 (fun _ h9 => h9) rfl dX5_seen_95 ?_
            have e9 : fX5_seen om p0 p1 = (((om.1 11) + 1), (us (ua (ua om 9 (om.1 11).toNatClampNeg p0) 10 (om.1 11).toNatClampNeg p1) 11 ((om.1 11) + 1))) := by
              simp only [fX5_seen, if_pos c1, if_neg c2, if_pos c3, if_neg c5, if_neg c6]
            exact W.iret hx hb hr (fun t ht hW => ⟨⟨_, (us (ua (ua om 9 (om.1 11).toNatClampNeg p0) 10 (om.1 11).toNatClampNeg p1) 11 ((om.1 11) + 1)), rfl, ⟨by rw [e9], by rw [e9]⟩, ⟨by rw [ht]; exact hP, hD⟩⟩, hS.F ht⟩) hS.2.2 dX5_seen_98
          · skip
            refine lv_bipush (v := (-4)) hx hb dX5_seen_61 (by decide) ?_
            have e9 : fX5_seen om p0 p1 = (((-4) : Int32), om) := by
              simp only [fX5_seen, if_pos c1, if_neg c2, if_pos c3, if_neg c5, if_pos c6]
            exact W.iret hx hb hr (fun t ht hW => ⟨⟨_, om, rfl, ⟨by rw [e9], by rw [e9]⟩, ⟨by rw [ht]; exact hP, hD⟩⟩, hS.F ht⟩) hS.2.2 dX5_seen_63
        · skip
          refine lv_bipush (v := (-2)) hx hb dX5_seen_49 (by decide) ?_
          have e9 : fX5_seen om p0 p1 = (((-2) : Int32), om) := by
            simp only [fX5_seen, if_pos c1, if_neg c2, if_pos c3, if_pos c5]
          exact W.iret hx hb hr (fun t ht hW => ⟨⟨_, om, rfl, ⟨by rw [e9], by rw [e9]⟩, ⟨by rw [ht]; exact hP, hD⟩⟩, hS.F ht⟩) hS.2.2 dX5_seen_51
  · skip
    refine lv_iload_n hx hb dX5_seen_12 rfl (lv_at hl 2 rfl) ?_
    refine rcSi (As := [.int p1]) (rest := []) hSF (kX5_isPerson l D cI cZ cC p1) (va_cwS 1 hts gX5_seen_X5_isPerson rfl rfl rfl (by decide +kernel) ⟨Nat.le_of_ble_eq_true rfl, Nat.le_of_ble_eq_true rfl⟩) (hP.sub [] rfl) hK hN rfl rfl hl.1 (Nat.le_of_ble_eq_true rfl) dX5_seen_13 ⟨Nat.zero_le _, Nat.zero_le _⟩ ?_
    refine lv_if_ne (tgt := 21) hx hb dX5_seen_16 (by decide) (fun c7 => ?_) (fun c7 => ?_)
    · skip
      refine lv_iload_n hx hb dX5_seen_21 rfl (lv_at hl 1 rfl) ?_
      refine lv_i2l hx hb dX5_seen_22 rfl ?_
      refine lv_lconst (v := 0) hx hb dX5_seen_23 (by decide) ?_
      refine lv_ldc2 (v := 2) hx hb hown (hts (.constantLong RX5 185 2) (by decide +kernel)) dX5_seen_24 ?_
      refine rcSi (As := [.long p0.toInt64, .long 0, .long 2]) (rest := []) hSF (kX5_in l D cI cZ cC p0.toInt64 0 2) (va_cwS 3 hts gX5_seen_X5_in rfl rfl rfl (by decide +kernel) ⟨Nat.le_of_ble_eq_true rfl, Nat.le_of_ble_eq_true rfl⟩) (hP.sub [] rfl) hK hN rfl rfl hl.1 (Nat.le_of_ble_eq_true rfl) dX5_seen_27 ⟨Nat.zero_le _, Nat.zero_le _⟩ ?_
      refine lv_if_eq (tgt := 49) hx hb dX5_seen_30 (by decide) (fun c8 => ?_) (fun c8 => ?_)
      · skip
        refine lv_bipush (v := (-2)) hx hb dX5_seen_49 (by decide) ?_
        have e9 : fX5_seen om p0 p1 = (((-2) : Int32), om) := by
          simp only [fX5_seen, if_neg c1, if_neg c7, if_pos c8]
        exact W.iret hx hb hr (fun t ht hW => ⟨⟨_, om, rfl, ⟨by rw [e9], by rw [e9]⟩, ⟨by rw [ht]; exact hP, hD⟩⟩, hS.F ht⟩) hS.2.2 dX5_seen_51
      · skip
        refine lv_iload_n hx hb dX5_seen_33 rfl (lv_at hl 1 rfl) ?_
        refine lv_if_ne (tgt := 52) hx hb dX5_seen_34 (by decide) (fun c9 => ?_) (fun c9 => ?_)
        · skip
          refine lv_aload_n hx hb dX5_seen_52 rfl (lv_at hl 0 rfl) ?_
          refine va_get (D := D) (ci := 5) (v := .int (om.1 11)) (C := RX5) (T := TX5) (N := 24) hx hb hts hi5 hown hK hP 0 rfl rfl 11 (by decide) hf189 (fun _ h9 => h9) rfl dX5_seen_53 ?_
          refine lv_bipush (v := 6) hx hb dX5_seen_56 (by decide) ?_
          refine lv_icmp_ne (tgt := 64) hx hb dX5_seen_58 (by decide) (fun c10 => ?_) (fun c10 => ?_)
          · skip
            refine lv_aload_n hx hb dX5_seen_64 rfl (lv_at hl 0 rfl) ?_
            refine va_get (D := D) (ci := 5) (v := .ref (am 9)) (C := RX5) (T := TX5) (N := 24) hx hb hts hi5 hown hK hP 0 rfl rfl 9 (by decide) hf22 (fun _ h9 => h9) rfl dX5_seen_65 ?_
            refine lv_aload_n hx hb dX5_seen_68 rfl (lv_at hl 0 rfl) ?_
            refine va_get (D := D) (ci := 5) (v := .int (om.1 11)) (C := RX5) (T := TX5) (N := 24) hx hb hts hi5 hown hK hP 0 rfl rfl 11 (by decide) hf189 (fun _ h9 => h9) rfl dX5_seen_69 ?_
            refine lv_iload_n hx hb dX5_seen_72 rfl (lv_at hl 1 rfl) ?_
            refine va_iast hx hb hK hP hD hS 5 0 rfl rfl (sn_in hn (by with_reducible assumption)) dX5_seen_73 (fun H locs hP hD hS => ?_)
            have hP : va_P D vwCl (wX5 cI cZ hm am (ua om 9 (om.1 11).toNatClampNeg p0)) H := hP
            have hD : va_D A (wX5 cI cZ hm am (ua om 9 (om.1 11).toNatClampNeg p0)) := hD
            refine lv_aload_n hx hb dX5_seen_74 rfl (lv_at hl 0 rfl) ?_
            refine va_get (D := D) (ci := 5) (v := .ref (am 10)) (C := RX5) (T := TX5) (N := 24) hx hb hts hi5 hown hK hP 0 rfl rfl 10 (by decide) hf25 (fun _ h9 => h9) rfl dX5_seen_75 ?_
            refine lv_aload_n hx hb dX5_seen_78 rfl (lv_at hl 0 rfl) ?_
            refine va_get (D := D) (ci := 5) (v := .int (om.1 11)) (C := RX5) (T := TX5) (N := 24) hx hb hts hi5 hown hK hP 0 rfl rfl 11 (by decide) hf189 (fun _ h9 => h9) rfl dX5_seen_79 ?_
            refine lv_iload_n hx hb dX5_seen_82 rfl (lv_at hl 2 rfl) ?_
            refine va_iast hx hb hK hP hD hS 6 0 rfl rfl (sn_in hn (by with_reducible assumption)) dX5_seen_83 (fun H locs hP hD hS => ?_)
            rw [sw_m_m_a10] at hP hD
            have hP : va_P D vwCl (wX5 cI cZ hm am (ua (ua om 9 (om.1 11).toNatClampNeg p0) 10 (om.1 11).toNatClampNeg p1)) H := hP
            have hD : va_D A (wX5 cI cZ hm am (ua (ua om 9 (om.1 11).toNatClampNeg p0) 10 (om.1 11).toNatClampNeg p1)) := hD
            refine lv_aload_n hx hb dX5_seen_84 rfl (lv_at hl 0 rfl) ?_
            refine lv_dup hx hb dX5_seen_85 rfl ?_
            refine va_get (D := D) (ci := 5) (v := .int (om.1 11)) (C := RX5) (T := TX5) (N := 24) hx hb hts hi5 hown hK hP 0 rfl rfl 11 (by decide) hf189 (fun _ h9 => h9) rfl dX5_seen_86 ?_
            refine lv_iconst (v := 1) hx hb dX5_seen_89 (by decide) ?_
            refine lv_iadd hx hb dX5_seen_90 ?_
            refine va_put (D := D) (ci := 5) (v := .int ((om.1 11) + 1)) (ty := .int) (C := RX5) (T := TX5) (N := 24) hx hb hts hi5 tyX5 tyX5_ok nmX5 hown hK hP hD hS 0 rfl rfl 11 (by decide) hf189 (fun _ h9 => h9) rfl (by decide +kernel) rfl rfl (Nat.le_of_ble_eq_true rfl) dX5_seen_91 (fun H locs hP hD hS => ?_)
            rw [sw_m_m_s11] at hP hD
            have hP : va_P D vwCl (wX5 cI cZ hm am (us (ua (ua om 9 (om.1 11).toNatClampNeg p0) 10 (om.1 11).toNatClampNeg p1) 11 ((om.1 11) + 1))) H := hP
            have hD : va_D A (wX5 cI cZ hm am (us (ua (ua om 9 (om.1 11).toNatClampNeg p0) 10 (om.1 11).toNatClampNeg p1) 11 ((om.1 11) + 1))) := hD
            refine lv_aload_n hx hb dX5_seen_94 rfl (lv_at hl 0 rfl) ?_
            refine va_get (D := D) (ci := 5) (v := .int ((om.1 11) + 1)) (C := RX5) (T := TX5) (N := 24) hx hb hts hi5 hown hK hP 0 rfl rfl 11 (by decide) hf189 (fun _ h9 => h9) rfl dX5_seen_95 ?_
            have e9 : fX5_seen om p0 p1 = (((om.1 11) + 1), (us (ua (ua om 9 (om.1 11).toNatClampNeg p0) 10 (om.1 11).toNatClampNeg p1) 11 ((om.1 11) + 1))) := by
              simp only [fX5_seen, if_neg c1, if_neg c7, if_neg c8, if_neg c9, if_neg c10]
            exact W.iret hx hb hr (fun t ht hW => ⟨⟨_, (us (ua (ua om 9 (om.1 11).toNatClampNeg p0) 10 (om.1 11).toNatClampNeg p1) 11 ((om.1 11) + 1)), rfl, ⟨by rw [e9], by rw [e9]⟩, ⟨by rw [ht]; exact hP, hD⟩⟩, hS.F ht⟩) hS.2.2 dX5_seen_98
          · skip
            refine lv_bipush (v := (-4)) hx hb dX5_seen_61 (by decide) ?_
            have e9 : fX5_seen om p0 p1 = (((-4) : Int32), om) := by
              simp only [fX5_seen, if_neg c1, if_neg c7, if_neg c8, if_neg c9, if_pos c10]
            exact W.iret hx hb hr (fun t ht hW => ⟨⟨_, om, rfl, ⟨by rw [e9], by rw [e9]⟩, ⟨by rw [ht]; exact hP, hD⟩⟩, hS.F ht⟩) hS.2.2 dX5_seen_63
        · skip
          refine lv_iload_n hx hb dX5_seen_37 rfl (lv_at hl 2 rfl) ?_
          refine lv_i2l hx hb dX5_seen_38 rfl ?_
          refine lv_lconst (v := 0) hx hb dX5_seen_39 (by decide) ?_
          refine lv_ldc2 (v := 63) hx hb hown (hts (.constantLong RX5 187 63) (by decide +kernel)) dX5_seen_40 ?_
          refine rcSi (As := [.long p1.toInt64, .long 0, .long 63]) (rest := []) hSF (kX5_in l D cI cZ cC p1.toInt64 0 63) (va_cwS 3 hts gX5_seen_X5_in rfl rfl rfl (by decide +kernel) ⟨Nat.le_of_ble_eq_true rfl, Nat.le_of_ble_eq_true rfl⟩) (hP.sub [] rfl) hK hN rfl rfl hl.1 (Nat.le_of_ble_eq_true rfl) dX5_seen_43 ⟨Nat.zero_le _, Nat.zero_le _⟩ ?_
          refine lv_if_ne (tgt := 52) hx hb dX5_seen_46 (by decide) (fun c11 => ?_) (fun c11 => ?_)
          · skip
            refine lv_aload_n hx hb dX5_seen_52 rfl (lv_at hl 0 rfl) ?_
            refine va_get (D := D) (ci := 5) (v := .int (om.1 11)) (C := RX5) (T := TX5) (N := 24) hx hb hts hi5 hown hK hP 0 rfl rfl 11 (by decide) hf189 (fun _ h9 => h9) rfl dX5_seen_53 ?_
            refine lv_bipush (v := 6) hx hb dX5_seen_56 (by decide) ?_
            refine lv_icmp_ne (tgt := 64) hx hb dX5_seen_58 (by decide) (fun c12 => ?_) (fun c12 => ?_)
            · skip
              refine lv_aload_n hx hb dX5_seen_64 rfl (lv_at hl 0 rfl) ?_
              refine va_get (D := D) (ci := 5) (v := .ref (am 9)) (C := RX5) (T := TX5) (N := 24) hx hb hts hi5 hown hK hP 0 rfl rfl 9 (by decide) hf22 (fun _ h9 => h9) rfl dX5_seen_65 ?_
              refine lv_aload_n hx hb dX5_seen_68 rfl (lv_at hl 0 rfl) ?_
              refine va_get (D := D) (ci := 5) (v := .int (om.1 11)) (C := RX5) (T := TX5) (N := 24) hx hb hts hi5 hown hK hP 0 rfl rfl 11 (by decide) hf189 (fun _ h9 => h9) rfl dX5_seen_69 ?_
              refine lv_iload_n hx hb dX5_seen_72 rfl (lv_at hl 1 rfl) ?_
              refine va_iast hx hb hK hP hD hS 5 0 rfl rfl (sn_in hn (by with_reducible assumption)) dX5_seen_73 (fun H locs hP hD hS => ?_)
              have hP : va_P D vwCl (wX5 cI cZ hm am (ua om 9 (om.1 11).toNatClampNeg p0)) H := hP
              have hD : va_D A (wX5 cI cZ hm am (ua om 9 (om.1 11).toNatClampNeg p0)) := hD
              refine lv_aload_n hx hb dX5_seen_74 rfl (lv_at hl 0 rfl) ?_
              refine va_get (D := D) (ci := 5) (v := .ref (am 10)) (C := RX5) (T := TX5) (N := 24) hx hb hts hi5 hown hK hP 0 rfl rfl 10 (by decide) hf25 (fun _ h9 => h9) rfl dX5_seen_75 ?_
              refine lv_aload_n hx hb dX5_seen_78 rfl (lv_at hl 0 rfl) ?_
              refine va_get (D := D) (ci := 5) (v := .int (om.1 11)) (C := RX5) (T := TX5) (N := 24) hx hb hts hi5 hown hK hP 0 rfl rfl 11 (by decide) hf189 (fun _ h9 => h9) rfl dX5_seen_79 ?_
              refine lv_iload_n hx hb dX5_seen_82 rfl (lv_at hl 2 rfl) ?_
              refine va_iast hx hb hK hP hD hS 6 0 rfl rfl (sn_in hn (by with_reducible assumption)) dX5_seen_83 (fun H locs hP hD hS => ?_)
              rw [sw_m_m_a10] at hP hD
              have hP : va_P D vwCl (wX5 cI cZ hm am (ua (ua om 9 (om.1 11).toNatClampNeg p0) 10 (om.1 11).toNatClampNeg p1)) H := hP
              have hD : va_D A (wX5 cI cZ hm am (ua (ua om 9 (om.1 11).toNatClampNeg p0) 10 (om.1 11).toNatClampNeg p1)) := hD
              refine lv_aload_n hx hb dX5_seen_84 rfl (lv_at hl 0 rfl) ?_
              refine lv_dup hx hb dX5_seen_85 rfl ?_
              refine va_get (D := D) (ci := 5) (v := .int (om.1 11)) (C := RX5) (T := TX5) (N := 24) hx hb hts hi5 hown hK hP 0 rfl rfl 11 (by decide) hf189 (fun _ h9 => h9) rfl dX5_seen_86 ?_
              refine lv_iconst (v := 1) hx hb dX5_seen_89 (by decide) ?_
              refine lv_iadd hx hb dX5_seen_90 ?_
              refine va_put (D := D) (ci := 5) (v := .int ((om.1 11) + 1)) (ty := .int) (C := RX5) (T := TX5) (N := 24) hx hb hts hi5 tyX5 tyX5_ok nmX5 hown hK hP hD hS 0 rfl rfl 11 (by decide) hf189 (fun _ h9 => h9) rfl (by decide +kernel) rfl rfl (Nat.le_of_ble_eq_true rfl) dX5_seen_91 (fun H locs hP hD hS => ?_)
              rw [sw_m_m_s11] at hP hD
              have hP : va_P D vwCl (wX5 cI cZ hm am (us (ua (ua om 9 (om.1 11).toNatClampNeg p0) 10 (om.1 11).toNatClampNeg p1) 11 ((om.1 11) + 1))) H := hP
              have hD : va_D A (wX5 cI cZ hm am (us (ua (ua om 9 (om.1 11).toNatClampNeg p0) 10 (om.1 11).toNatClampNeg p1) 11 ((om.1 11) + 1))) := hD
              refine lv_aload_n hx hb dX5_seen_94 rfl (lv_at hl 0 rfl) ?_
              refine va_get (D := D) (ci := 5) (v := .int ((om.1 11) + 1)) (C := RX5) (T := TX5) (N := 24) hx hb hts hi5 hown hK hP 0 rfl rfl 11 (by decide) hf189 (fun _ h9 => h9) rfl dX5_seen_95 ?_
              have e9 : fX5_seen om p0 p1 = (((om.1 11) + 1), (us (ua (ua om 9 (om.1 11).toNatClampNeg p0) 10 (om.1 11).toNatClampNeg p1) 11 ((om.1 11) + 1))) := by
                simp only [fX5_seen, if_neg c1, if_neg c7, if_neg c8, if_pos c9, if_neg c11, if_neg c12]
              exact W.iret hx hb hr (fun t ht hW => ⟨⟨_, (us (ua (ua om 9 (om.1 11).toNatClampNeg p0) 10 (om.1 11).toNatClampNeg p1) 11 ((om.1 11) + 1)), rfl, ⟨by rw [e9], by rw [e9]⟩, ⟨by rw [ht]; exact hP, hD⟩⟩, hS.F ht⟩) hS.2.2 dX5_seen_98
            · skip
              refine lv_bipush (v := (-4)) hx hb dX5_seen_61 (by decide) ?_
              have e9 : fX5_seen om p0 p1 = (((-4) : Int32), om) := by
                simp only [fX5_seen, if_neg c1, if_neg c7, if_neg c8, if_pos c9, if_neg c11, if_pos c12]
              exact W.iret hx hb hr (fun t ht hW => ⟨⟨_, om, rfl, ⟨by rw [e9], by rw [e9]⟩, ⟨by rw [ht]; exact hP, hD⟩⟩, hS.F ht⟩) hS.2.2 dX5_seen_63
          · skip
            refine lv_bipush (v := (-2)) hx hb dX5_seen_49 (by decide) ?_
            have e9 : fX5_seen om p0 p1 = (((-2) : Int32), om) := by
              simp only [fX5_seen, if_neg c1, if_neg c7, if_neg c8, if_pos c9, if_pos c11]
            exact W.iret hx hb hr (fun t ht hW => ⟨⟨_, om, rfl, ⟨by rw [e9], by rw [e9]⟩, ⟨by rw [ht]; exact hP, hD⟩⟩, hS.F ht⟩) hS.2.2 dX5_seen_51
    · skip
      refine lv_iconst (v := (-1)) hx hb dX5_seen_19 (by decide) ?_
      have e9 : fX5_seen om p0 p1 = (((-1) : Int32), om) := by
        simp only [fX5_seen, if_neg c1, if_pos c7]
      exact W.iret hx hb hr (fun t ht hW => ⟨⟨_, om, rfl, ⟨by rw [e9], by rw [e9]⟩, ⟨by rw [ht]; exact hP, hD⟩⟩, hS.F ht⟩) hS.2.2 dX5_seen_20

set_option maxHeartbeats 4000000 in
set_option maxRecDepth 100000 in
theorem kX5_forget (l : Launch) (D : va_G) (cI cZ cC : ClassId) (hm : Nat) (am : Nat → Nat) (om : OV)   {sz : Nat} : Met l yX5_forget wsX5_forget ({ frames := 0, cells := 0, slots := 0, locals := 0 }) (pW D (tyv cI cZ cC) (wX5 cI cZ hm am om) sz [.ref hm]) (va_Qi (fun r (u : OV) => r = (fX5_forget om).1 ∧ u = (fX5_forget om).2) (qW D (fun (u : OV) => wX5 cI cZ hm am u) (va_A (wX5 cI cZ hm am om) sz)) (va_A (wX5 cI cZ hm am om) sz)) 0 0 (va_A (wX5 cI cZ hm am om) sz) := by
  refine Met.ofW (cc := cX5_forget) (maxL := 2) (ret := (some .int)) (by decide) rfl ?_
  intro p e s m args below meth c s₁ B hml hv
  obtain ⟨rfl, hsz, hP, hK, hN, hD0⟩ := hv
  have hx := B.exec
  have hb := B.bytes
  have hr := B.returns
  have hts := atoms_spec (ws := wsX5_forget) B.pre
  have hown : s.vm.findClass RX5 = some m.cls := findClass_of_methodNamed B.named
  have hlocks := B.notSynchronized
  subst hsz
  have hD := hD0.self (sz := s.heap.size)
  generalize hAe : va_A (wX5 cI cZ hm am om) s.heap.size = A at hD ⊢
  have hA : ∀ q : Nat, s.heap.size ≤ q → A q := fun q h => by rw [← hAe]; exact Or.inr h
  have hS : va_S A s.heap s.heap [] := va_S.rf
  have hP : va_P D vwCl (wX5 cI cZ hm am om) s.heap := hP
  have hl := lv_entry ([.ref hm]) (n := 2) (Nat.le_of_ble_eq_true rfl)
  rw [lg_entry_eq]
  generalize (lg_sl ([.ref hm]) ++ List.replicate (2 - (lg_sl ([.ref hm])).length) Slot.unset).toArray = ls at hl ⊢
  have hl : lv_has ls 2 [(0, .ref hm)] := hl
  have hSF : CallFix p m c cX5_forget 2 s _ wsX5_forget RX5 := ⟨hx, hb, hml, hown, hts⟩
  have hi5 : ∀ w ∈ wsX50, w ∈ wsX5_forget := by decide +kernel
  have hf189 : (Cond.fieldLink RX5 189 "UmbrellaVoteModel" "sights" "I").before _ s = true := hts _ (by decide +kernel)
  refine lv_aload_n hx hb dX5_forget_0 rfl (lv_at hl 0 rfl) ?_
  refine va_get (D := D) (ci := 5) (v := .int (om.1 11)) (C := RX5) (T := TX5) (N := 24) hx hb hts hi5 hown hK hP 0 rfl rfl 11 (by decide) hf189 (fun _ h9 => h9) rfl dX5_forget_1 ?_
  refine lv_istore_n (lv' := [(1, .int (om.1 11)), (0, .ref hm)]) hx hb dX5_forget_4 rfl hl (by decide) rfl (fun ls hl => ?_)
  refine lv_aload_n hx hb dX5_forget_5 rfl (lv_at hl 1 rfl) ?_
  refine lv_iconst (v := 0) hx hb dX5_forget_6 (by decide) ?_
  refine va_put (D := D) (ci := 5) (v := .int 0) (ty := .int) (C := RX5) (T := TX5) (N := 24) hx hb hts hi5 tyX5 tyX5_ok nmX5 hown hK hP hD hS 0 rfl rfl 11 (by decide) hf189 (fun _ h9 => h9) rfl (by decide +kernel) rfl rfl (Nat.le_of_ble_eq_true rfl) dX5_forget_7 (fun H locs hP hD hS => ?_)
  have hP : va_P D vwCl (wX5 cI cZ hm am (us om 11 0)) H := hP
  have hD : va_D A (wX5 cI cZ hm am (us om 11 0)) := hD
  refine lv_iload_n hx hb dX5_forget_10 rfl (lv_at hl 0 rfl) ?_
  have e9 : fX5_forget om = ((om.1 11), (us om 11 0)) := by
    rfl
  exact W.iret hx hb hr (fun t ht hW => ⟨⟨_, (us om 11 0), rfl, ⟨by rw [e9], by rw [e9]⟩, ⟨by rw [ht]; exact hP, hD⟩⟩, hS.F ht⟩) hS.2.2 dX5_forget_11

set_option maxHeartbeats 4000000 in
set_option maxRecDepth 100000 in
theorem kX5_holds (l : Launch) (D : va_G) (cI cZ cC : ClassId) (hm : Nat) (am : Nat → Nat) (om : OV) (p0 : Int32) (p1 : Int32) (hp : vp_in p0 6) : Met l yX5_holds wsX5_holds ({ frames := 0, cells := 0, slots := 0, locals := 0 }) (pR D (tyv cI cZ cC) (wX5 cI cZ hm am om) [.ref hm, .int p0, .int p1]) (vp_Si (fun r => r = fX5_holds om p0 p1)) 0 0 (fun _ => False) := by
  refine Met.ofW (cc := cX5_holds) (maxL := 3) (ret := (some .boolean)) (by decide) rfl ?_
  intro p e s m args below meth c s₁ B hml hv
  obtain ⟨rfl, hP, hK, hN⟩ := hv
  have hx := B.exec
  have hb := B.bytes
  have hr := B.returns
  have hts := atoms_spec (ws := wsX5_holds) B.pre
  have hown : s.vm.findClass RX5 = some m.cls := findClass_of_methodNamed B.named
  have hlocks := B.notSynchronized
  have hP : va_P D vwCl (wX5 cI cZ hm am om) s.heap := hP
  have hl := lv_entry ([.ref hm, .int p0, .int p1]) (n := 3) (Nat.le_of_ble_eq_true rfl)
  rw [lg_entry_eq]
  generalize (lg_sl ([.ref hm, .int p0, .int p1]) ++ List.replicate (3 - (lg_sl ([.ref hm, .int p0, .int p1])).length) Slot.unset).toArray = ls at hl ⊢
  have hl : lv_has ls 3 [(0, .ref hm), (1, .int p0), (2, .int p1)] := hl
  have hSF : CallFix p m c cX5_holds 3 s _ wsX5_holds RX5 := ⟨hx, hb, hml, hown, hts⟩
  have hi5 : ∀ w ∈ wsX50, w ∈ wsX5_holds := by decide +kernel
  have hf22 : (Cond.fieldLink RX5 22 "UmbrellaVoteModel" "sightHow" "[I").before _ s = true := hts _ (by decide +kernel)
  have hf25 : (Cond.fieldLink RX5 25 "UmbrellaVoteModel" "sightOf" "[I").before _ s = true := hts _ (by decide +kernel)
  refine lv_aload_n hx hb dX5_holds_0 rfl (lv_at hl 0 rfl) ?_
  refine va_get (D := D) (ci := 5) (v := .ref (am 9)) (C := RX5) (T := TX5) (N := 24) hx hb hts hi5 hown hK hP 0 rfl rfl 9 (by decide) hf22 (fun _ h9 => h9) rfl dX5_holds_1 ?_
  refine lv_iload_n hx hb dX5_holds_4 rfl (lv_at hl 1 rfl) ?_
  refine va_iald (f := (om.2 9)) hx hb hK hP 5 0 rfl rfl hp dX5_holds_5 ?_
  refine W_itei (P := ((om.2 9) p0.toNatClampNeg) = 0) (a := (if p1 = ((om.2 10) p0.toNatClampNeg) then (1 : Int32) else 0)) (b := (if ((p1 >>> (((om.2 10) p0.toNatClampNeg) &&& 31)) &&& 1) = (if ((om.2 9) p0.toNatClampNeg) = 1 then (1 : Int32) else 0) then (1 : Int32) else 0)) (J := 60) (ls9 := ls) (rest9 := []) (fun ja2 jb2 => ?_) ?_
  · refine lv_if_ne (tgt := 27) hx hb dX5_holds_6 (by decide) (fun c1 => ?_) (fun c1 => ?_)
    · skip
      refine lv_iload_n hx hb dX5_holds_27 rfl (lv_at hl 2 rfl) ?_
      refine lv_aload_n hx hb dX5_holds_28 rfl (lv_at hl 0 rfl) ?_
      refine va_get (D := D) (ci := 5) (v := .ref (am 10)) (C := RX5) (T := TX5) (N := 24) hx hb hts hi5 hown hK hP 0 rfl rfl 10 (by decide) hf25 (fun _ h9 => h9) rfl dX5_holds_29 ?_
      refine lv_iload_n hx hb dX5_holds_32 rfl (lv_at hl 1 rfl) ?_
      refine va_iald (f := (om.2 10)) hx hb hK hP 6 0 rfl rfl hp dX5_holds_33 ?_
      refine lv_ishr hx hb dX5_holds_34 ?_
      refine lv_iconst (v := 1) hx hb dX5_holds_35 (by decide) ?_
      refine lv_iand hx hb dX5_holds_36 ?_
      refine lv_aload_n hx hb dX5_holds_37 rfl (lv_at hl 0 rfl) ?_
      refine va_get (D := D) (ci := 5) (v := .ref (am 9)) (C := RX5) (T := TX5) (N := 24) hx hb hts hi5 hown hK hP 0 rfl rfl 9 (by decide) hf22 (fun _ h9 => h9) rfl dX5_holds_38 ?_
      refine lv_iload_n hx hb dX5_holds_41 rfl (lv_at hl 1 rfl) ?_
      refine va_iald (f := (om.2 9)) hx hb hK hP 5 0 rfl rfl hp dX5_holds_42 ?_
      refine lv_iconst (v := 1) hx hb dX5_holds_43 (by decide) ?_
      refine W_itei (P := ((om.2 9) p0.toNatClampNeg) = 1) (a := 1) (b := 0) (J := 52) (ls9 := ls) (rest9 := [.int ((p1 >>> (((om.2 10) p0.toNatClampNeg) &&& 31)) &&& 1)]) (fun ja4 jb4 => ?_) ?_
      · refine lv_icmp_ne (tgt := 51) hx hb dX5_holds_44 (by decide) (fun c3 => ?_) (fun c3 => ?_)
        · skip
          refine lv_iconst (v := 0) hx hb dX5_holds_51 (by decide) ?_
          exact jb4 c3
        · skip
          refine lv_iconst (v := 1) hx hb dX5_holds_47 (by decide) ?_
          refine lv_goto (tgt := 52) hx hb dX5_holds_48 (by decide) ?_
          exact ja4 c3
      refine W_itei (P := ((p1 >>> (((om.2 10) p0.toNatClampNeg) &&& 31)) &&& 1) = (if ((om.2 9) p0.toNatClampNeg) = 1 then (1 : Int32) else 0)) (a := 1) (b := 0) (J := 60) (ls9 := ls) (rest9 := []) (fun ja6 jb6 => ?_) ?_
      · refine lv_icmp_ne (tgt := 59) hx hb dX5_holds_52 (by decide) (fun c5 => ?_) (fun c5 => ?_)
        · skip
          refine lv_iconst (v := 0) hx hb dX5_holds_59 (by decide) ?_
          exact jb6 c5
        · skip
          refine lv_iconst (v := 1) hx hb dX5_holds_55 (by decide) ?_
          refine lv_goto (tgt := 60) hx hb dX5_holds_56 (by decide) ?_
          exact ja6 c5
      exact jb2 c1
    · skip
      refine lv_iload_n hx hb dX5_holds_9 rfl (lv_at hl 2 rfl) ?_
      refine lv_aload_n hx hb dX5_holds_10 rfl (lv_at hl 0 rfl) ?_
      refine va_get (D := D) (ci := 5) (v := .ref (am 10)) (C := RX5) (T := TX5) (N := 24) hx hb hts hi5 hown hK hP 0 rfl rfl 10 (by decide) hf25 (fun _ h9 => h9) rfl dX5_holds_11 ?_
      refine lv_iload_n hx hb dX5_holds_14 rfl (lv_at hl 1 rfl) ?_
      refine va_iald (f := (om.2 10)) hx hb hK hP 6 0 rfl rfl hp dX5_holds_15 ?_
      refine W_itei (P := p1 = ((om.2 10) p0.toNatClampNeg)) (a := 1) (b := 0) (J := 60) (ls9 := ls) (rest9 := []) (fun ja8 jb8 => ?_) ?_
      · refine lv_icmp_ne (tgt := 23) hx hb dX5_holds_16 (by decide) (fun c7 => ?_) (fun c7 => ?_)
        · skip
          refine lv_iconst (v := 0) hx hb dX5_holds_23 (by decide) ?_
          refine lv_goto (tgt := 60) hx hb dX5_holds_24 (by decide) ?_
          exact jb8 c7
        · skip
          refine lv_iconst (v := 1) hx hb dX5_holds_19 (by decide) ?_
          refine lv_goto (tgt := 60) hx hb dX5_holds_20 (by decide) ?_
          exact ja8 c7
      exact ja2 c1
  have e9 : fX5_holds om p0 p1 = (if ((om.2 9) p0.toNatClampNeg) = 0 then (if p1 = ((om.2 10) p0.toNatClampNeg) then (1 : Int32) else 0) else (if ((p1 >>> (((om.2 10) p0.toNatClampNeg) &&& 31)) &&& 1) = (if ((om.2 9) p0.toNatClampNeg) = 1 then (1 : Int32) else 0) then (1 : Int32) else 0)) := by
    rfl
  exact W.zret hx hb hr (nar_z (if_z (if_z (Or.inr rfl) (Or.inl rfl)) (if_z (Or.inr rfl) (Or.inl rfl)))) (fun t ht hW => ⟨_, rfl, e9.symm, ht⟩) (fun _ h9 => absurd h9 List.not_mem_nil) dX5_holds_60

set_option maxHeartbeats 4000000 in
set_option maxRecDepth 100000 in
theorem kX5_fits (l : Launch) (D : va_G) (cI cZ cC : ClassId) (hm : Nat) (am : Nat → Nat) (om : OV)  (hn : (om.1 11).toNatClampNeg ≤ 6 ∧ om.1 11 = nI (om.1 11).toNatClampNeg) : Met l yX5_fits wsX5_fits ({ frames := 6, cells := 0, slots := 0, locals := 138 }) (pR D (tyv cI cZ cC) (wX5 cI cZ hm am om) [.ref hm]) (vp_Si (fun r => r = fX5_fits om)) 0 0 (fun _ => False) := by
  refine Met.ofW (cc := cX5_fits) (maxL := 6) (ret := (some .int)) (by decide) rfl ?_
  intro p e s m args below meth c s₁ B hml hv
  obtain ⟨rfl, hP, hK, hN⟩ := hv
  have hx := B.exec
  have hb := B.bytes
  have hr := B.returns
  have hts := atoms_spec (ws := wsX5_fits) B.pre
  have hown : s.vm.findClass RX5 = some m.cls := findClass_of_methodNamed B.named
  have hlocks := B.notSynchronized
  have hP : va_P D vwCl (wX5 cI cZ hm am om) s.heap := hP
  have hl := lv_entry ([.ref hm]) (n := 6) (Nat.le_of_ble_eq_true rfl)
  rw [lg_entry_eq]
  generalize (lg_sl ([.ref hm]) ++ List.replicate (6 - (lg_sl ([.ref hm])).length) Slot.unset).toArray = ls at hl ⊢
  have hl : lv_has ls 6 [(0, .ref hm)] := hl
  have hSF : CallFix p m c cX5_fits 6 s _ wsX5_fits RX5 := ⟨hx, hb, hml, hown, hts⟩
  have hi5 : ∀ w ∈ wsX50, w ∈ wsX5_fits := by decide +kernel
  have hf189 : (Cond.fieldLink RX5 189 "UmbrellaVoteModel" "sights" "I").before _ s = true := hts _ (by decide +kernel)
  refine lv_iconst (v := 0) hx hb dX5_fits_0 (by decide) ?_
  refine lv_istore_n (lv' := [(1, .int 0), (0, .ref hm)]) hx hb dX5_fits_1 rfl hl (by decide) rfl (fun ls hl => ?_)
  refine lv_iconst (v := 0) hx hb dX5_fits_2 (by decide) ?_
  refine lv_istore_n (lv' := [(2, .int 0), (1, .int 0), (0, .ref hm)]) hx hb dX5_fits_3 rfl hl (by decide) rfl (fun ls hl => ?_)
  refine W_lpR (10) (fun k9 ls9 => lv_has ls9 6 [(2, .int (nI k9)), (1, .int (fX5_fits_L4 om 0 k9)), (0, .ref hm)]) (lv_sub hl [0, 1, 2] rfl) ?_ ?_
  · intro k1 ls hk1 hl ih1
    generalize hs1 : fX5_fits_L4 om 0 k1 = y1 at hl
    obtain ⟨x1_1, en1⟩ : ∃ z, z = y1 := ⟨_, rfl⟩
    subst en1
    refine lv_iload_n hx hb dX5_fits_4 rfl (lv_at hl 0 rfl) ?_
    refine lv_bipush (v := 10) hx hb dX5_fits_5 (by decide) ?_
    refine lv_icmp_ge (tgt := 80) hx hb dX5_fits_7 (by decide) (fun c2 => absurd c2 (nI_ge hk1 (by decide))) (fun c2 => ?_)
    refine lv_aload_n hx hb dX5_fits_10 rfl (lv_at hl 2 rfl) ?_
    refine lv_iload_n hx hb dX5_fits_11 rfl (lv_at hl 0 rfl) ?_
    refine rcVi (b := hm) (As := [.int (nI k1)]) (rest := []) hSF (kX5_rulersBy l D cI cZ cC hm am om (nI k1)) (cwV 1 hts gX5_fits_X5_rulersBy rfl rfl rfl (by decide +kernel) ⟨Nat.le_of_ble_eq_true rfl, Nat.le_of_ble_eq_true rfl⟩) (va_recv hK hP (ci := 5) (q0 := 0) rfl rfl) (hP.sub [0, 1, 2, 3, 4, 5, 6, 7, 8, 9, 10, 11] rfl) hK hN rfl rfl hl.1 (Nat.le_of_ble_eq_true rfl) dX5_fits_12 ⟨Nat.zero_le _, Nat.zero_le _⟩ ?_
    refine lv_istore_n (lv' := [(3, .int (fX5_rulersBy om (nI k1))), (2, .int (nI k1)), (1, .int x1_1), (0, .ref hm)]) hx hb dX5_fits_15 rfl hl (by decide) rfl (fun ls hl => ?_)
    refine lv_iconst (v := 1) hx hb dX5_fits_16 (by decide) ?_
    refine lv_istore (lv' := [(4, .int 1), (3, .int (fX5_rulersBy om (nI k1))), (2, .int (nI k1)), (1, .int x1_1), (0, .ref hm)]) hx hb dX5_fits_17 hl (by decide) rfl (fun ls hl => ?_)
    refine lv_iconst (v := 0) hx hb dX5_fits_19 (by decide) ?_
    refine lv_istore (lv' := [(5, .int 0), (4, .int 1), (3, .int (fX5_rulersBy om (nI k1))), (2, .int (nI k1)), (1, .int x1_1), (0, .ref hm)]) hx hb dX5_fits_20 hl (by decide) rfl (fun ls hl => ?_)
    refine W_lpR ((om.1 11).toNatClampNeg) (fun k9 ls9 => lv_has ls9 6 [(5, .int (nI k9)), (4, .int (fX5_fits_L22 om k1 1 k9)), (3, .int (fX5_rulersBy om (nI k1))), (2, .int (nI k1)), (1, .int x1_1), (0, .ref hm)]) (lv_sub hl [0, 1, 2, 3, 4, 5] rfl) ?_ ?_
    · intro k3 ls hk3 hl ih3
      generalize hs3 : fX5_fits_L22 om k1 1 k3 = y3 at hl
      obtain ⟨x4_3, en3⟩ : ∃ z, z = y3 := ⟨_, rfl⟩
      subst en3
      refine lv_iload hx hb dX5_fits_22 (lv_at hl 0 rfl) ?_
      refine lv_aload_n hx hb dX5_fits_24 rfl (lv_at hl 5 rfl) ?_
      refine va_get (D := D) (ci := 5) (v := .int (om.1 11)) (C := RX5) (T := TX5) (N := 24) hx hb hts hi5 hown hK hP 0 rfl rfl 11 (by decide) hf189 (fun _ h9 => h9) rfl dX5_fits_25 ?_
      refine lv_icmp_ge (tgt := 59) hx hb dX5_fits_28 (by decide) (fun c4 => absurd c4 (bnd_nle hn.2 hk3 (Nat.lt_of_le_of_lt hn.1 (by decide)))) (fun c4 => ?_)
      refine lv_iload hx hb dX5_fits_31 (lv_at hl 1 rfl) ?_
      refine W_itei (P := x4_3 = 0) (a := 0) (b := (if (fX5_holds om (nI k3) (fX5_rulersBy om (nI k1))) = 0 then (0 : Int32) else 1)) (J := 51) (ls9 := ls) (rest9 := []) (fun ja6 jb6 => ?_) ?_
      · refine lv_if_eq (tgt := 50) hx hb dX5_fits_33 (by decide) (fun c5 => ?_) (fun c5 => ?_)
        · skip
          refine lv_iconst (v := 0) hx hb dX5_fits_50 (by decide) ?_
          exact ja6 c5
        · skip
          refine lv_aload_n hx hb dX5_fits_36 rfl (lv_at hl 5 rfl) ?_
          refine lv_iload hx hb dX5_fits_37 (lv_at hl 0 rfl) ?_
          refine lv_iload_n hx hb dX5_fits_39 rfl (lv_at hl 2 rfl) ?_
          refine rcVi (b := hm) (As := [.int (nI k3), .int (fX5_rulersBy om (nI k1))]) (rest := []) hSF (kX5_holds l D cI cZ cC hm am om (nI k3) (fX5_rulersBy om (nI k1)) (vp_in_nI (Nat.lt_of_lt_of_le hk3 hn.1) (by decide))) (cwV 2 hts gX5_fits_X5_holds rfl rfl rfl (by decide +kernel) ⟨Nat.le_of_ble_eq_true rfl, Nat.le_of_ble_eq_true rfl⟩) (va_recv hK hP (ci := 5) (q0 := 0) rfl rfl) (hP.sub [0, 1, 2, 3, 4, 5, 6, 7, 8, 9, 10, 11] rfl) hK hN rfl rfl hl.1 (Nat.le_of_ble_eq_true rfl) dX5_fits_40 ⟨Nat.zero_le _, Nat.zero_le _⟩ ?_
          refine W_itei (P := (fX5_holds om (nI k3) (fX5_rulersBy om (nI k1))) = 0) (a := 0) (b := 1) (J := 51) (ls9 := ls) (rest9 := []) (fun ja8 jb8 => ?_) ?_
          · refine lv_if_eq (tgt := 50) hx hb dX5_fits_43 (by decide) (fun c7 => ?_) (fun c7 => ?_)
            · skip
              refine lv_iconst (v := 0) hx hb dX5_fits_50 (by decide) ?_
              exact ja8 c7
            · skip
              refine lv_iconst (v := 1) hx hb dX5_fits_46 (by decide) ?_
              refine lv_goto (tgt := 51) hx hb dX5_fits_47 (by decide) ?_
              exact jb8 c7
          exact jb6 c5
      refine lv_topi (fun x9 ex9 => ?_)
      refine lv_istore (lv' := [(4, .int x9), (5, .int (nI k3)), (3, .int (fX5_rulersBy om (nI k1))), (2, .int (nI k1)), (1, .int x1_1), (0, .ref hm)]) hx hb dX5_fits_51 hl (by decide) rfl (fun ls hl => ?_)
      refine lv_iinc (v := ((nI k3) + 1)) (lv' := [(5, .int ((nI k3) + 1)), (4, .int x9), (3, .int (fX5_rulersBy om (nI k1))), (2, .int (nI k1)), (1, .int x1_1), (0, .ref hm)]) hx hb dX5_fits_53 hl (k := 1) rfl rfl (by decide) rfl (fun ls hl => ?_)
      refine lv_goto (tgt := 22) hx hb dX5_fits_56 (by decide) ?_
      have e8 : fX5_fits_L22s om k1 k3 x4_3 = x9 := by
        unfold fX5_fits_L22s
        rw [← ex9]
        rfl
      have e7 : fX5_fits_L22 om k1 1 (k3 + 1) = x9 := by
        show fX5_fits_L22s om k1 k3 (fX5_fits_L22 om k1 1 k3) = _
        rw [hs3]; exact e8
      have hl9 : lv_has ls 6 [(5, .int (nI (k3 + 1))), (4, .int (fX5_fits_L22 om k1 1 (k3 + 1))), (3, .int (fX5_rulersBy om (nI k1))), (2, .int (nI k1)), (1, .int x1_1), (0, .ref hm)] := by
        rw [nI_succ, e7]; exact lv_sub hl [0, 1, 2, 3, 4, 5] rfl
      exact ih3 ls hl9
    intro ls hl
    refine lv_iload hx hb dX5_fits_22 (lv_at hl 0 rfl) ?_
    refine lv_aload_n hx hb dX5_fits_24 rfl (lv_at hl 5 rfl) ?_
    refine va_get (D := D) (ci := 5) (v := .int (om.1 11)) (C := RX5) (T := TX5) (N := 24) hx hb hts hi5 hown hK hP 0 rfl rfl 11 (by decide) hf189 (fun _ h9 => h9) rfl dX5_fits_25 ?_
    refine lv_icmp_ge (tgt := 59) hx hb dX5_fits_28 (by decide) (fun c10 => ?_) (fun c10 => absurd (bnd_le hn.2) c10)
    refine lv_iload_n hx hb dX5_fits_59 rfl (lv_at hl 4 rfl) ?_
    refine lv_iload hx hb dX5_fits_60 (lv_at hl 1 rfl) ?_
    refine W_itei (P := (fX5_fits_L22 om k1 1 ((om.1 11).toNatClampNeg)) = 0) (a := 0) (b := (1 <<< ((nI k1) &&& 31))) (J := 72) (ls9 := ls) (rest9 := [.int x1_1]) (fun ja12 jb12 => ?_) ?_
    · refine lv_if_eq (tgt := 71) hx hb dX5_fits_62 (by decide) (fun c11 => ?_) (fun c11 => ?_)
      · skip
        refine lv_iconst (v := 0) hx hb dX5_fits_71 (by decide) ?_
        exact ja12 c11
      · skip
        refine lv_iconst (v := 1) hx hb dX5_fits_65 (by decide) ?_
        refine lv_iload_n hx hb dX5_fits_66 rfl (lv_at hl 3 rfl) ?_
        refine lv_ishl hx hb dX5_fits_67 ?_
        refine lv_goto (tgt := 72) hx hb dX5_fits_68 (by decide) ?_
        exact jb12 c11
    refine lv_ior hx hb dX5_fits_72 ?_
    refine lv_topi (fun x13 ex13 => ?_)
    refine lv_istore_n (lv' := [(1, .int x13), (5, .int (nI ((om.1 11).toNatClampNeg))), (4, .int (fX5_fits_L22 om k1 1 ((om.1 11).toNatClampNeg))), (3, .int (fX5_rulersBy om (nI k1))), (2, .int (nI k1)), (0, .ref hm)]) hx hb dX5_fits_73 rfl hl (by decide) rfl (fun ls hl => ?_)
    refine lv_iinc (v := ((nI k1) + 1)) (lv' := [(2, .int ((nI k1) + 1)), (1, .int x13), (5, .int (nI ((om.1 11).toNatClampNeg))), (4, .int (fX5_fits_L22 om k1 1 ((om.1 11).toNatClampNeg))), (3, .int (fX5_rulersBy om (nI k1))), (0, .ref hm)]) hx hb dX5_fits_74 hl (k := 4) rfl rfl (by decide) rfl (fun ls hl => ?_)
    refine lv_goto (tgt := 4) hx hb dX5_fits_77 (by decide) ?_
    have e8 : fX5_fits_L4s om k1 x1_1 = x13 := by
      unfold fX5_fits_L4s
      rw [← ex13]
      rfl
    have e7 : fX5_fits_L4 om 0 (k1 + 1) = x13 := by
      show fX5_fits_L4s om k1 (fX5_fits_L4 om 0 k1) = _
      rw [hs1]; exact e8
    have hl9 : lv_has ls 6 [(2, .int (nI (k1 + 1))), (1, .int (fX5_fits_L4 om 0 (k1 + 1))), (0, .ref hm)] := by
      rw [nI_succ, e7]; exact lv_sub hl [0, 1, 5] rfl
    exact ih1 ls hl9
  intro ls hl
  refine lv_iload_n hx hb dX5_fits_4 rfl (lv_at hl 0 rfl) ?_
  refine lv_bipush (v := 10) hx hb dX5_fits_5 (by decide) ?_
  refine lv_icmp_ge (tgt := 80) hx hb dX5_fits_7 (by decide) (fun c14 => ?_) (fun c14 => absurd (nI_le (Nat.le_refl _) (by decide)) c14)
  refine lv_iload_n hx hb dX5_fits_80 rfl (lv_at hl 1 rfl) ?_
  have e9 : fX5_fits om = (fX5_fits_L4 om 0 (10)) := by
    rfl
  exact W.iret hx hb hr (fun t ht hW => ⟨_, rfl, e9.symm, ht⟩) (fun _ h9 => absurd h9 List.not_mem_nil) dX5_fits_81

set_option maxHeartbeats 4000000 in
set_option maxRecDepth 100000 in
theorem kX5_year (l : Launch) (D : va_G) (cI cZ cC : ClassId) (hm : Nat) (am : Nat → Nat) (om : OV) (p0 : Int32) (p1 : Int32) (p2 : Int32)  {sz : Nat} : Met l yX5_year wsX5_year ({ frames := 6, cells := 0, slots := 0, locals := 138 }) (pW D (tyv cI cZ cC) (wX5 cI cZ hm am om) sz [.ref hm, .int p0, .int p1, .int p2]) (va_Qi (fun r (u : OV) => r = (fX5_year om p0 p1 p2).1 ∧ u = (fX5_year om p0 p1 p2).2) (qW D (fun (u : OV) => wX5 cI cZ hm am u) (va_A (wX5 cI cZ hm am om) sz)) (va_A (wX5 cI cZ hm am om) sz)) 0 0 (va_A (wX5 cI cZ hm am om) sz) := by
  refine Met.ofW (cc := cX5_year) (maxL := 8) (ret := (some .int)) (by decide) rfl ?_
  intro p e s m args below meth c s₁ B hml hv
  obtain ⟨rfl, hsz, hP, hK, hN, hD0⟩ := hv
  have hx := B.exec
  have hb := B.bytes
  have hr := B.returns
  have hts := atoms_spec (ws := wsX5_year) B.pre
  have hown : s.vm.findClass RX5 = some m.cls := findClass_of_methodNamed B.named
  have hlocks := B.notSynchronized
  subst hsz
  have hD := hD0.self (sz := s.heap.size)
  generalize hAe : va_A (wX5 cI cZ hm am om) s.heap.size = A at hD ⊢
  have hA : ∀ q : Nat, s.heap.size ≤ q → A q := fun q h => by rw [← hAe]; exact Or.inr h
  have hS : va_S A s.heap s.heap [] := va_S.rf
  have hP : va_P D vwCl (wX5 cI cZ hm am om) s.heap := hP
  have hl := lv_entry ([.ref hm, .int p0, .int p1, .int p2]) (n := 8) (Nat.le_of_ble_eq_true rfl)
  rw [lg_entry_eq]
  generalize (lg_sl ([.ref hm, .int p0, .int p1, .int p2]) ++ List.replicate (8 - (lg_sl ([.ref hm, .int p0, .int p1, .int p2])).length) Slot.unset).toArray = ls at hl ⊢
  have hl : lv_has ls 8 [(0, .ref hm), (1, .int p0), (2, .int p1), (3, .int p2)] := hl
  have hSF : CallFix p m c cX5_year 8 s _ wsX5_year RX5 := ⟨hx, hb, hml, hown, hts⟩
  have hi5 : ∀ w ∈ wsX50, w ∈ wsX5_year := by decide +kernel
  have hf114 : (Cond.fieldLink RX5 114 "UmbrellaVoteModel" "reigns" "I").before _ s = true := hts _ (by decide +kernel)
  have hf117 : (Cond.fieldLink RX5 117 "UmbrellaVoteModel" "ruling" "I").before _ s = true := hts _ (by decide +kernel)
  refine lv_iload_n hx hb dX5_year_0 rfl (lv_at hl 1 rfl) ?_
  refine lv_i2l hx hb dX5_year_1 rfl ?_
  refine lv_lconst (v := 0) hx hb dX5_year_2 (by decide) ?_
  refine lv_ldc2 (v := 9999) hx hb hown (hts (.constantLong RX5 195 9999) (by decide +kernel)) dX5_year_3 ?_
  refine rcSi (As := [.long p0.toInt64, .long 0, .long 9999]) (rest := []) hSF (kX5_in l D cI cZ cC p0.toInt64 0 9999) (va_cwS 3 hts gX5_year_X5_in rfl rfl rfl (by decide +kernel) ⟨Nat.le_of_ble_eq_true rfl, Nat.le_of_ble_eq_true rfl⟩) (hP.sub [] rfl) hK hN rfl rfl hl.1 (Nat.le_of_ble_eq_true rfl) dX5_year_6 ⟨Nat.zero_le _, Nat.zero_le _⟩ ?_
  refine lv_if_eq (tgt := 36) hx hb dX5_year_9 (by decide) (fun c1 => ?_) (fun c1 => ?_)
  · skip
    refine lv_bipush (v := (-2)) hx hb dX5_year_36 (by decide) ?_
    have e9 : fX5_year om p0 p1 p2 = (((-2) : Int32), om) := by
      simp only [fX5_year, if_pos c1]
    exact W.iret hx hb hr (fun t ht hW => ⟨⟨_, om, rfl, ⟨by rw [e9], by rw [e9]⟩, ⟨by rw [ht]; exact hP, hD⟩⟩, hS.F ht⟩) hS.2.2 dX5_year_38
  · skip
    refine lv_iload_n hx hb dX5_year_12 rfl (lv_at hl 2 rfl) ?_
    refine lv_i2l hx hb dX5_year_13 rfl ?_
    refine lv_lconst (v := 1) hx hb dX5_year_14 (by decide) ?_
    refine lv_ldc2 (v := 99) hx hb hown (hts (.constantLong RX5 197 99) (by decide +kernel)) dX5_year_15 ?_
    refine rcSi (As := [.long p1.toInt64, .long 1, .long 99]) (rest := []) hSF (kX5_in l D cI cZ cC p1.toInt64 1 99) (va_cwS 3 hts gX5_year_X5_in rfl rfl rfl (by decide +kernel) ⟨Nat.le_of_ble_eq_true rfl, Nat.le_of_ble_eq_true rfl⟩) (hP.sub [] rfl) hK hN rfl rfl hl.1 (Nat.le_of_ble_eq_true rfl) dX5_year_18 ⟨Nat.zero_le _, Nat.zero_le _⟩ ?_
    refine lv_if_eq (tgt := 36) hx hb dX5_year_21 (by decide) (fun c2 => ?_) (fun c2 => ?_)
    · skip
      refine lv_bipush (v := (-2)) hx hb dX5_year_36 (by decide) ?_
      have e9 : fX5_year om p0 p1 p2 = (((-2) : Int32), om) := by
        simp only [fX5_year, if_neg c1, if_pos c2]
      exact W.iret hx hb hr (fun t ht hW => ⟨⟨_, om, rfl, ⟨by rw [e9], by rw [e9]⟩, ⟨by rw [ht]; exact hP, hD⟩⟩, hS.F ht⟩) hS.2.2 dX5_year_38
    · skip
      refine lv_iload_n hx hb dX5_year_24 rfl (lv_at hl 3 rfl) ?_
      refine lv_i2l hx hb dX5_year_25 rfl ?_
      refine lv_lconst (v := 0) hx hb dX5_year_26 (by decide) ?_
      refine lv_ldc2 (v := 7) hx hb hown (hts (.constantLong RX5 148 7) (by decide +kernel)) dX5_year_27 ?_
      refine rcSi (As := [.long p2.toInt64, .long 0, .long 7]) (rest := []) hSF (kX5_in l D cI cZ cC p2.toInt64 0 7) (va_cwS 3 hts gX5_year_X5_in rfl rfl rfl (by decide +kernel) ⟨Nat.le_of_ble_eq_true rfl, Nat.le_of_ble_eq_true rfl⟩) (hP.sub [] rfl) hK hN rfl rfl hl.1 (Nat.le_of_ble_eq_true rfl) dX5_year_30 ⟨Nat.zero_le _, Nat.zero_le _⟩ ?_
      refine lv_if_ne (tgt := 39) hx hb dX5_year_33 (by decide) (fun c3 => ?_) (fun c3 => ?_)
      · skip
        refine lv_iload_n hx hb dX5_year_39 rfl (lv_at hl 1 rfl) ?_
        refine lv_istore (lv' := [(4, .int p0), (0, .ref hm), (1, .int p0), (2, .int p1), (3, .int p2)]) hx hb dX5_year_40 hl (by decide) rfl (fun ls hl => ?_)
        refine lv_iconst (v := 0) hx hb dX5_year_42 (by decide) ?_
        refine lv_istore (lv' := [(5, .int 0), (4, .int p0), (0, .ref hm), (1, .int p0), (2, .int p1), (3, .int p2)]) hx hb dX5_year_43 hl (by decide) rfl (fun ls hl => ?_)
        refine lv_aload_n hx hb dX5_year_45 rfl (lv_at hl 2 rfl) ?_
        refine lv_iconst (v := 0) hx hb dX5_year_46 (by decide) ?_
        refine va_put (D := D) (ci := 5) (v := .int 0) (ty := .int) (C := RX5) (T := TX5) (N := 24) hx hb hts hi5 tyX5 tyX5_ok nmX5 hown hK hP hD hS 0 rfl rfl 15 (by decide) hf114 (fun _ h9 => h9) rfl (by decide +kernel) rfl rfl (Nat.le_of_ble_eq_true rfl) dX5_year_47 (fun H locs hP hD hS => ?_)
        have hP : va_P D vwCl (wX5 cI cZ hm am (us om 15 0)) H := hP
        have hD : va_D A (wX5 cI cZ hm am (us om 15 0)) := hD
        refine lv_aload_n hx hb dX5_year_50 rfl (lv_at hl 2 rfl) ?_
        refine lv_iconst (v := 0) hx hb dX5_year_51 (by decide) ?_
        refine va_put (D := D) (ci := 5) (v := .int 0) (ty := .int) (C := RX5) (T := TX5) (N := 24) hx hb hts hi5 tyX5 tyX5_ok nmX5 hown hK hP hD hS 0 rfl rfl 16 (by decide) hf117 (fun _ h9 => h9) rfl (by decide +kernel) rfl rfl (Nat.le_of_ble_eq_true rfl) dX5_year_52 (fun H locs hP hD hS => ?_)
        rw [sw_m_m_s16] at hP hD
        have hP : va_P D vwCl (wX5 cI cZ hm am (us (us om 15 0) 16 0)) H := hP
        have hD : va_D A (wX5 cI cZ hm am (us (us om 15 0) 16 0)) := hD
        refine lv_iconst (v := 0) hx hb dX5_year_55 (by decide) ?_
        refine lv_istore (lv' := [(6, .int 0), (5, .int 0), (4, .int p0), (0, .ref hm), (1, .int p0), (2, .int p1), (3, .int p2)]) hx hb dX5_year_56 hl (by decide) rfl (fun ls hl => ?_)
        refine W_lpW ((p1.toNatClampNeg)) (fun k9 H9 locs9 ls9 => va_P D vwCl (wX5 cI cZ hm am (fX5_year_L58 p2 0 p0 (us (us om 15 0) 16 0) k9).2.2) H9 ∧ va_D A (wX5 cI cZ hm am (fX5_year_L58 p2 0 p0 (us (us om 15 0) 16 0) k9).2.2) ∧ va_S A s.heap H9 locs9 ∧ lv_has ls9 8 [(6, .int (nI k9)), (5, .int (fX5_year_L58 p2 0 p0 (us (us om 15 0) 16 0) k9).1), (4, .int (fX5_year_L58 p2 0 p0 (us (us om 15 0) 16 0) k9).2.1), (0, .ref hm), (1, .int p0), (2, .int p1), (3, .int p2)]) ⟨hP, hD, hS, lv_sub hl [0, 1, 2, 3, 4, 5, 6] rfl⟩ ?_ ?_
        · intro k4 H locs ls hk4 hI9 ih4
          obtain ⟨hP, hD, hS, hl⟩ := hI9
          generalize hs4 : fX5_year_L58 p2 0 p0 (us (us om 15 0) 16 0) k4 = y4 at hP hD hl
          obtain ⟨x5_4, x4_4, om4⟩ := y4
          try dsimp only at hP hD hl
          have hP : va_P D vwCl (wX5 cI cZ hm am om4) H := hP
          have hD : va_D A (wX5 cI cZ hm am om4) := hD
          have hl : lv_has ls 8 [(6, .int (nI k4)), (5, .int x5_4), (4, .int x4_4), (0, .ref hm), (1, .int p0), (2, .int p1), (3, .int p2)] := hl
          refine lv_iload hx hb dX5_year_58 (lv_at hl 0 rfl) ?_
          refine lv_iload_n hx hb dX5_year_60 rfl (lv_at hl 5 rfl) ?_
          refine lv_icmp_ge (tgt := 151) hx hb dX5_year_61 (by decide) (fun c5 => absurd c5 (bnd_nle (wy5_eq (by with_reducible assumption)) hk4 (cl_lt _))) (fun c5 => ?_)
          refine lv_ldc2 (v := 75) hx hb hown (hts (.constantLong RX5 199 75) (by decide +kernel)) dX5_year_64 ?_
          refine lv_iload hx hb dX5_year_67 (lv_at hl 2 rfl) ?_
          refine lv_i2l hx hb dX5_year_69 rfl ?_
          refine lv_lmul hx hb dX5_year_70 ?_
          refine lv_ldc2 (v := 74) hx hb hown (hts (.constantLong RX5 201 74) (by decide +kernel)) dX5_year_71 ?_
          refine lv_ladd hx hb dX5_year_74 ?_
          refine lv_ldc2 (v := 65537) hx hb hown (hts (.constantLong RX5 203 65537) (by decide +kernel)) dX5_year_75 ?_
          refine lv_lrem hx hb dX5_year_78 (by decide) ?_
          refine lv_l2i hx hb dX5_year_79 rfl ?_
          refine lv_istore (lv' := [(4, .int (((75 * x4_4.toInt64) + 74) - ((75 * x4_4.toInt64) + 74) / 65537 * 65537).toInt32), (6, .int (nI k4)), (5, .int x5_4), (0, .ref hm), (1, .int p0), (2, .int p1), (3, .int p2)]) hx hb dX5_year_80 hl (by decide) rfl (fun ls hl => ?_)
          refine lv_aload_n hx hb dX5_year_82 rfl (lv_at hl 3 rfl) ?_
          refine lv_iload hx hb dX5_year_83 (lv_at hl 0 rfl) ?_
          refine lv_bipush (v := 10) hx hb dX5_year_85 (by decide) ?_
          refine lv_irem hx hb dX5_year_87 (by decide) ?_
          refine rcVi (b := hm) (As := [.int ((((75 * x4_4.toInt64) + 74) - ((75 * x4_4.toInt64) + 74) / 65537 * 65537).toInt32 - (((75 * x4_4.toInt64) + 74) - ((75 * x4_4.toInt64) + 74) / 65537 * 65537).toInt32 / 10 * 10)]) (rest := []) hSF (kX5_rulersBy l D cI cZ cC hm am om4 ((((75 * x4_4.toInt64) + 74) - ((75 * x4_4.toInt64) + 74) / 65537 * 65537).toInt32 - (((75 * x4_4.toInt64) + 74) - ((75 * x4_4.toInt64) + 74) / 65537 * 65537).toInt32 / 10 * 10)) (cwV 1 hts gX5_year_X5_rulersBy rfl rfl rfl (by decide +kernel) ⟨Nat.le_of_ble_eq_true rfl, Nat.le_of_ble_eq_true rfl⟩) (va_recv hK hP (ci := 5) (q0 := 0) rfl rfl) (hP.sub [0, 1, 2, 3, 4, 5, 6, 7, 8, 9, 10, 11] rfl) hK hN rfl rfl hl.1 (Nat.le_of_ble_eq_true rfl) dX5_year_88 ⟨Nat.zero_le _, Nat.zero_le _⟩ ?_
          refine lv_topi (fun x6 ex6 => ?_)
          refine lv_istore (lv' := [(7, .int x6), (4, .int (((75 * x4_4.toInt64) + 74) - ((75 * x4_4.toInt64) + 74) / 65537 * 65537).toInt32), (6, .int (nI k4)), (5, .int x5_4), (0, .ref hm), (1, .int p0), (2, .int p1), (3, .int p2)]) hx hb dX5_year_91 hl (by decide) rfl (fun ls hl => ?_)
          refine lv_aload_n hx hb dX5_year_93 rfl (lv_at hl 4 rfl) ?_
          refine lv_iload hx hb dX5_year_94 (lv_at hl 0 rfl) ?_
          refine W_itei (P := x6 = 0) (a := (om4.1 16)) (b := x6) (J := 108) (ls9 := ls) (rest9 := [.ref hm]) (fun ja8 jb8 => ?_) ?_
          · refine lv_if_ne (tgt := 106) hx hb dX5_year_96 (by decide) (fun c7 => ?_) (fun c7 => ?_)
            · skip
              refine lv_iload hx hb dX5_year_106 (lv_at hl 0 rfl) ?_
              exact jb8 c7
            · skip
              refine lv_aload_n hx hb dX5_year_99 rfl (lv_at hl 4 rfl) ?_
              refine va_get (D := D) (ci := 5) (v := .int (om4.1 16)) (C := RX5) (T := TX5) (N := 24) hx hb hts hi5 hown hK hP 0 rfl rfl 16 (by decide) hf117 (fun _ h9 => h9) rfl dX5_year_100 ?_
              refine lv_goto (tgt := 108) hx hb dX5_year_103 (by decide) ?_
              exact ja8 c7
          refine wcVv (b := hm) (As := [.int (if x6 = 0 then (om4.1 16) else x6)]) (rest := []) (wr := []) (ws' := wX5 cI cZ hm am (fX5_rule om4 (if x6 = 0 then (om4.1 16) else x6))) hSF (kX5_rule l D cI cZ cC hm am om4 (if x6 = 0 then (om4.1 16) else x6)) (cwV 1 hts gX5_year_X5_rule rfl rfl rfl (by decide +kernel) ⟨Nat.le_of_ble_eq_true rfl, Nat.le_of_ble_eq_true rfl⟩) (va_recv hK hP (ci := 5) (q0 := 0) rfl rfl) hP hD hS hA hK hN [0, 1, 2, 3, 4, 5, 6, 7, 8, 9, 10, 11] [] [0, 1, 2, 3, 4, 5, 6, 7, 8, 9, 10, 11] rfl (by decide) rfl (by decide) (by decide) rfl (by decide) rfl rfl hl.1 (Nat.le_of_ble_eq_true rfl) dX5_year_108 ⟨Nat.zero_le _, Nat.zero_le _⟩ (fun H locs hP hD hS => ?_)
          refine lv_iload hx hb dX5_year_111 (lv_at hl 3 rfl) ?_
          refine lv_iload_n hx hb dX5_year_113 rfl (lv_at hl 7 rfl) ?_
          refine lv_bipush (v := 6) hx hb dX5_year_114 (by decide) ?_
          refine W_itei (P := 6 ≤ p2) (a := (if ((fX5_rule om4 (if x6 = 0 then (om4.1 16) else x6)).1 16) = 0 then (1 : Int32) else 0)) (b := ((((fX5_rule om4 (if x6 = 0 then (om4.1 16) else x6)).1 16) >>> (p2 &&& 31)) &&& 1)) (J := 142) (ls9 := ls) (rest9 := [.int x5_4]) (fun ja10 jb10 => ?_) ?_
          · refine lv_icmp_ge (tgt := 130) hx hb dX5_year_116 (by decide) (fun c9 => ?_) (fun c9 => ?_)
            · skip
              refine lv_aload_n hx hb dX5_year_130 rfl (lv_at hl 4 rfl) ?_
              refine va_get (D := D) (ci := 5) (v := .int ((fX5_rule om4 (if x6 = 0 then (om4.1 16) else x6)).1 16)) (C := RX5) (T := TX5) (N := 24) hx hb hts hi5 hown hK hP 0 rfl rfl 16 (by decide) hf117 (fun _ h9 => h9) rfl dX5_year_131 ?_
              refine W_itei (P := ((fX5_rule om4 (if x6 = 0 then (om4.1 16) else x6)).1 16) = 0) (a := 1) (b := 0) (J := 142) (ls9 := ls) (rest9 := [.int x5_4]) (fun ja12 jb12 => ?_) ?_
              · refine lv_if_ne (tgt := 141) hx hb dX5_year_134 (by decide) (fun c11 => ?_) (fun c11 => ?_)
                · skip
                  refine lv_iconst (v := 0) hx hb dX5_year_141 (by decide) ?_
                  exact jb12 c11
                · skip
                  refine lv_iconst (v := 1) hx hb dX5_year_137 (by decide) ?_
                  refine lv_goto (tgt := 142) hx hb dX5_year_138 (by decide) ?_
                  exact ja12 c11
              exact ja10 c9
            · skip
              refine lv_aload_n hx hb dX5_year_119 rfl (lv_at hl 4 rfl) ?_
              refine va_get (D := D) (ci := 5) (v := .int ((fX5_rule om4 (if x6 = 0 then (om4.1 16) else x6)).1 16)) (C := RX5) (T := TX5) (N := 24) hx hb hts hi5 hown hK hP 0 rfl rfl 16 (by decide) hf117 (fun _ h9 => h9) rfl dX5_year_120 ?_
              refine lv_iload_n hx hb dX5_year_123 rfl (lv_at hl 7 rfl) ?_
              refine lv_ishr hx hb dX5_year_124 ?_
              refine lv_iconst (v := 1) hx hb dX5_year_125 (by decide) ?_
              refine lv_iand hx hb dX5_year_126 ?_
              refine lv_goto (tgt := 142) hx hb dX5_year_127 (by decide) ?_
              exact jb10 c9
          refine lv_iadd hx hb dX5_year_142 ?_
          refine lv_topi (fun x13 ex13 => ?_)
          refine lv_istore (lv' := [(5, .int x13), (7, .int x6), (4, .int (((75 * x4_4.toInt64) + 74) - ((75 * x4_4.toInt64) + 74) / 65537 * 65537).toInt32), (6, .int (nI k4)), (0, .ref hm), (1, .int p0), (2, .int p1), (3, .int p2)]) hx hb dX5_year_143 hl (by decide) rfl (fun ls hl => ?_)
          refine lv_iinc (v := ((nI k4) + 1)) (lv' := [(6, .int ((nI k4) + 1)), (5, .int x13), (7, .int x6), (4, .int (((75 * x4_4.toInt64) + 74) - ((75 * x4_4.toInt64) + 74) / 65537 * 65537).toInt32), (0, .ref hm), (1, .int p0), (2, .int p1), (3, .int p2)]) hx hb dX5_year_145 hl (k := 3) rfl rfl (by decide) rfl (fun ls hl => ?_)
          refine lv_goto (tgt := 58) hx hb dX5_year_148 (by decide) ?_
          have e8 : fX5_year_L58s p2 k4 x5_4 x4_4 om4 = (x13, (((75 * x4_4.toInt64) + 74) - ((75 * x4_4.toInt64) + 74) / 65537 * 65537).toInt32, (fX5_rule om4 (if x6 = 0 then (om4.1 16) else x6))) := by
            unfold fX5_year_L58s
            rw [← ex6]
            unfold fX5_year_L58s_x6
            rw [← ex13]
            rfl
          have e7 : fX5_year_L58 p2 0 p0 (us (us om 15 0) 16 0) (k4 + 1) = (x13, (((75 * x4_4.toInt64) + 74) - ((75 * x4_4.toInt64) + 74) / 65537 * 65537).toInt32, (fX5_rule om4 (if x6 = 0 then (om4.1 16) else x6))) := by
            show fX5_year_L58s p2 k4 (fX5_year_L58 p2 0 p0 (us (us om 15 0) 16 0) k4).1 (fX5_year_L58 p2 0 p0 (us (us om 15 0) 16 0) k4).2.1 (fX5_year_L58 p2 0 p0 (us (us om 15 0) 16 0) k4).2.2 = _
            rw [hs4]; exact e8
          have hl9 : lv_has ls 8 [(6, .int (nI (k4 + 1))), (5, .int (fX5_year_L58 p2 0 p0 (us (us om 15 0) 16 0) (k4 + 1)).1), (4, .int (fX5_year_L58 p2 0 p0 (us (us om 15 0) 16 0) (k4 + 1)).2.1), (0, .ref hm), (1, .int p0), (2, .int p1), (3, .int p2)] := by
            rw [nI_succ, e7]; exact lv_sub hl [0, 1, 3, 4, 5, 6, 7] rfl
          exact ih4 H locs ls ⟨by rw [e7]; exact hP, by rw [e7]; exact hD, hS, hl9⟩
        intro H locs ls hI9
        obtain ⟨hP, hD, hS, hl⟩ := hI9
        refine lv_iload hx hb dX5_year_58 (lv_at hl 0 rfl) ?_
        refine lv_iload_n hx hb dX5_year_60 rfl (lv_at hl 5 rfl) ?_
        refine lv_icmp_ge (tgt := 151) hx hb dX5_year_61 (by decide) (fun c14 => ?_) (fun c14 => absurd (bnd_le (wy5_eq (by with_reducible assumption))) c14)
        refine lv_iload_n hx hb dX5_year_151 rfl (lv_at hl 6 rfl) ?_
        refine lv_bipush (v := 7) hx hb dX5_year_152 (by decide) ?_
        refine W_itei (P := p2 = 7) (a := ((fX5_year_L58 p2 0 p0 (us (us om 15 0) 16 0) ((p1.toNatClampNeg))).2.2.1 15)) (b := (fX5_year_L58 p2 0 p0 (us (us om 15 0) 16 0) ((p1.toNatClampNeg))).1) (J := 166) (ls9 := ls) (rest9 := []) (fun ja16 jb16 => ?_) ?_
        · refine lv_icmp_ne (tgt := 164) hx hb dX5_year_154 (by decide) (fun c15 => ?_) (fun c15 => ?_)
          · skip
            refine lv_iload hx hb dX5_year_164 (lv_at hl 1 rfl) ?_
            exact jb16 c15
          · skip
            refine lv_aload_n hx hb dX5_year_157 rfl (lv_at hl 3 rfl) ?_
            refine va_get (D := D) (ci := 5) (v := .int ((fX5_year_L58 p2 0 p0 (us (us om 15 0) 16 0) ((p1.toNatClampNeg))).2.2.1 15)) (C := RX5) (T := TX5) (N := 24) hx hb hts hi5 hown hK hP 0 rfl rfl 15 (by decide) hf114 (fun _ h9 => h9) rfl dX5_year_158 ?_
            refine lv_goto (tgt := 166) hx hb dX5_year_161 (by decide) ?_
            exact ja16 c15
        have e9 : fX5_year om p0 p1 p2 = ((if p2 = 7 then ((fX5_year_L58 p2 0 p0 (us (us om 15 0) 16 0) ((p1.toNatClampNeg))).2.2.1 15) else (fX5_year_L58 p2 0 p0 (us (us om 15 0) 16 0) ((p1.toNatClampNeg))).1), (fX5_year_L58 p2 0 p0 (us (us om 15 0) 16 0) ((p1.toNatClampNeg))).2.2) := by
          simp only [fX5_year, if_neg c1, if_neg c2, if_neg c3]
        exact W.iret hx hb hr (fun t ht hW => ⟨⟨_, (fX5_year_L58 p2 0 p0 (us (us om 15 0) 16 0) ((p1.toNatClampNeg))).2.2, rfl, ⟨by rw [e9], by rw [e9]⟩, ⟨by rw [ht]; exact hP, hD⟩⟩, hS.F ht⟩) hS.2.2 dX5_year_166
      · skip
        refine lv_bipush (v := (-2)) hx hb dX5_year_36 (by decide) ?_
        have e9 : fX5_year om p0 p1 p2 = (((-2) : Int32), om) := by
          simp only [fX5_year, if_neg c1, if_neg c2, if_pos c3]
        exact W.iret hx hb hr (fun t ht hW => ⟨⟨_, om, rfl, ⟨by rw [e9], by rw [e9]⟩, ⟨by rw [ht]; exact hP, hD⟩⟩, hS.F ht⟩) hS.2.2 dX5_year_38

set_option maxHeartbeats 4000000 in
set_option maxRecDepth 100000 in
theorem kX5_told (l : Launch) (D : va_G) (cI cZ cC : ClassId) (hm : Nat) (am : Nat → Nat) (om : OV) (p0 : Int32)  : Met l yX5_told wsX5_told ({ frames := 3, cells := 0, slots := 0, locals := 66 }) (pR D (tyv cI cZ cC) (wX5 cI cZ hm am om) [.ref hm, .int p0]) (vp_Si (fun r => r = fX5_told om p0)) 0 0 (fun _ => False) := by
  refine Met.ofW (cc := cX5_told) (maxL := 5) (ret := (some .int)) (by decide) rfl ?_
  intro p e s m args below meth c s₁ B hml hv
  obtain ⟨rfl, hP, hK, hN⟩ := hv
  have hx := B.exec
  have hb := B.bytes
  have hr := B.returns
  have hts := atoms_spec (ws := wsX5_told) B.pre
  have hown : s.vm.findClass RX5 = some m.cls := findClass_of_methodNamed B.named
  have hlocks := B.notSynchronized
  have hP : va_P D vwCl (wX5 cI cZ hm am om) s.heap := hP
  have hl := lv_entry ([.ref hm, .int p0]) (n := 5) (Nat.le_of_ble_eq_true rfl)
  rw [lg_entry_eq]
  generalize (lg_sl ([.ref hm, .int p0]) ++ List.replicate (5 - (lg_sl ([.ref hm, .int p0])).length) Slot.unset).toArray = ls at hl ⊢
  have hl : lv_has ls 5 [(0, .ref hm), (1, .int p0)] := hl
  have hSF : CallFix p m c cX5_told 5 s _ wsX5_told RX5 := ⟨hx, hb, hml, hown, hts⟩
  have hi5 : ∀ w ∈ wsX50, w ∈ wsX5_told := by decide +kernel
  have hf86 : (Cond.fieldLink RX5 86 "UmbrellaVoteModel" "padMany" "I").before _ s = true := hts _ (by decide +kernel)
  have hf63 : (Cond.fieldLink RX5 63 "UmbrellaVoteModel" "there" "I").before _ s = true := hts _ (by decide +kernel)
  have hf44 : (Cond.fieldLink RX5 44 "UmbrellaVoteModel" "spread" "I").before _ s = true := hts _ (by decide +kernel)
  have hf48 : (Cond.fieldLink RX5 48 "UmbrellaVoteModel" "shade" "I").before _ s = true := hts _ (by decide +kernel)
  have hf79 : (Cond.fieldLink RX5 79 "UmbrellaVoteModel" "tables" "I").before _ s = true := hts _ (by decide +kernel)
  have hf189 : (Cond.fieldLink RX5 189 "UmbrellaVoteModel" "sights" "I").before _ s = true := hts _ (by decide +kernel)
  have hf69 : (Cond.fieldLink RX5 69 "UmbrellaVoteModel" "holes" "I").before _ s = true := hts _ (by decide +kernel)
  have hf16 : (Cond.fieldLink RX5 16 "UmbrellaVoteModel" "partyOf" "[I").before _ s = true := hts _ (by decide +kernel)
  have hf13 : (Cond.fieldLink RX5 13 "UmbrellaVoteModel" "slowOf" "[I").before _ s = true := hts _ (by decide +kernel)
  have hf7 : (Cond.fieldLink RX5 7 "UmbrellaVoteModel" "placeOf" "[I").before _ s = true := hts _ (by decide +kernel)
  have hf19 : (Cond.fieldLink RX5 19 "UmbrellaVoteModel" "weight" "[I").before _ s = true := hts _ (by decide +kernel)
  refine lv_iload_n hx hb dX5_told_0 rfl (lv_at hl 1 rfl) ?_
  refine lv_i2l hx hb dX5_told_1 rfl ?_
  refine lv_ldc2 (v := 10) hx hb hown (hts (.constantLong RX5 218 10) (by decide +kernel)) dX5_told_2 ?_
  refine lv_ldc2 (v := 19) hx hb hown (hts (.constantLong RX5 220 19) (by decide +kernel)) dX5_told_5 ?_
  refine rcSi (As := [.long p0.toInt64, .long 10, .long 19]) (rest := []) hSF (kX5_in l D cI cZ cC p0.toInt64 10 19) (va_cwS 3 hts gX5_told_X5_in rfl rfl rfl (by decide +kernel) ⟨Nat.le_of_ble_eq_true rfl, Nat.le_of_ble_eq_true rfl⟩) (hP.sub [] rfl) hK hN rfl rfl hl.1 (Nat.le_of_ble_eq_true rfl) dX5_told_8 ⟨Nat.zero_le _, Nat.zero_le _⟩ ?_
  refine lv_if_eq (tgt := 24) hx hb dX5_told_11 (by decide) (fun c1 => ?_) (fun c1 => ?_)
  · skip
    refine lv_iload_n hx hb dX5_told_24 rfl (lv_at hl 1 rfl) ?_
    refine lv_i2l hx hb dX5_told_25 rfl ?_
    refine lv_ldc2 (v := 20) hx hb hown (hts (.constantLong RX5 222 20) (by decide +kernel)) dX5_told_26 ?_
    refine lv_ldc2 (v := 79) hx hb hown (hts (.constantLong RX5 224 79) (by decide +kernel)) dX5_told_29 ?_
    refine rcSi (As := [.long p0.toInt64, .long 20, .long 79]) (rest := []) hSF (kX5_in l D cI cZ cC p0.toInt64 20 79) (va_cwS 3 hts gX5_told_X5_in rfl rfl rfl (by decide +kernel) ⟨Nat.le_of_ble_eq_true rfl, Nat.le_of_ble_eq_true rfl⟩) (hP.sub [] rfl) hK hN rfl rfl hl.1 (Nat.le_of_ble_eq_true rfl) dX5_told_32 ⟨Nat.zero_le _, Nat.zero_le _⟩ ?_
    refine lv_if_eq (tgt := 130) hx hb dX5_told_35 (by decide) (fun c2 => ?_) (fun c2 => ?_)
    · skip
      refine lv_iload_n hx hb dX5_told_130 rfl (lv_at hl 1 rfl) ?_
      by_cases q3_0 : p0 = 0
      · refine lv_tableIn (off := 37) (tgt := 168) hx hb dX5_told_131 (by rw [q3_0]; decide) (by rw [q3_0]; decide) (by rw [q3_0]; rfl) (by decide) ?_
        refine lv_aload_n hx hb dX5_told_168 rfl (lv_at hl 0 rfl) ?_
        refine va_get (D := D) (ci := 5) (v := .int (om.1 13)) (C := RX5) (T := TX5) (N := 24) hx hb hts hi5 hown hK hP 0 rfl rfl 13 (by decide) hf86 (fun _ h9 => h9) rfl dX5_told_169 ?_
        have e9 : fX5_told om p0 = (om.1 13) := by
          simp only [fX5_told, if_pos c1, if_pos c2, if_pos q3_0]
        exact W.iret hx hb hr (fun t ht hW => ⟨_, rfl, e9.symm, ht⟩) (fun _ h9 => absurd h9 List.not_mem_nil) dX5_told_172
      by_cases q3_1 : p0 = 1
      · refine lv_tableIn (off := 42) (tgt := 173) hx hb dX5_told_131 (by rw [q3_1]; decide) (by rw [q3_1]; decide) (by rw [q3_1]; rfl) (by decide) ?_
        refine lv_aload_n hx hb dX5_told_173 rfl (lv_at hl 0 rfl) ?_
        refine va_get (D := D) (ci := 5) (v := .int (om.1 0)) (C := RX5) (T := TX5) (N := 24) hx hb hts hi5 hown hK hP 0 rfl rfl 0 (by decide) hf63 (fun _ h9 => h9) rfl dX5_told_174 ?_
        have e9 : fX5_told om p0 = (om.1 0) := by
          simp only [fX5_told, if_pos c1, if_pos c2, if_neg q3_0, if_pos q3_1]
        exact W.iret hx hb hr (fun t ht hW => ⟨_, rfl, e9.symm, ht⟩) (fun _ h9 => absurd h9 List.not_mem_nil) dX5_told_177
      by_cases q3_2 : p0 = 2
      · refine lv_tableIn (off := 47) (tgt := 178) hx hb dX5_told_131 (by rw [q3_2]; decide) (by rw [q3_2]; decide) (by rw [q3_2]; rfl) (by decide) ?_
        refine lv_aload_n hx hb dX5_told_178 rfl (lv_at hl 0 rfl) ?_
        refine va_get (D := D) (ci := 5) (v := .int (om.1 6)) (C := RX5) (T := TX5) (N := 24) hx hb hts hi5 hown hK hP 0 rfl rfl 6 (by decide) hf44 (fun _ h9 => h9) rfl dX5_told_179 ?_
        have e9 : fX5_told om p0 = (om.1 6) := by
          simp only [fX5_told, if_pos c1, if_pos c2, if_neg q3_0, if_neg q3_1, if_pos q3_2]
        exact W.iret hx hb hr (fun t ht hW => ⟨_, rfl, e9.symm, ht⟩) (fun _ h9 => absurd h9 List.not_mem_nil) dX5_told_182
      by_cases q3_3 : p0 = 3
      · refine lv_tableIn (off := 52) (tgt := 183) hx hb dX5_told_131 (by rw [q3_3]; decide) (by rw [q3_3]; decide) (by rw [q3_3]; rfl) (by decide) ?_
        refine lv_aload_n hx hb dX5_told_183 rfl (lv_at hl 0 rfl) ?_
        refine va_get (D := D) (ci := 5) (v := .int (om.1 7)) (C := RX5) (T := TX5) (N := 24) hx hb hts hi5 hown hK hP 0 rfl rfl 7 (by decide) hf48 (fun _ h9 => h9) rfl dX5_told_184 ?_
        have e9 : fX5_told om p0 = (om.1 7) := by
          simp only [fX5_told, if_pos c1, if_pos c2, if_neg q3_0, if_neg q3_1, if_neg q3_2, if_pos q3_3]
        exact W.iret hx hb hr (fun t ht hW => ⟨_, rfl, e9.symm, ht⟩) (fun _ h9 => absurd h9 List.not_mem_nil) dX5_told_187
      by_cases q3_4 : p0 = 4
      · refine lv_tableIn (off := 57) (tgt := 188) hx hb dX5_told_131 (by rw [q3_4]; decide) (by rw [q3_4]; decide) (by rw [q3_4]; rfl) (by decide) ?_
        refine lv_aload_n hx hb dX5_told_188 rfl (lv_at hl 0 rfl) ?_
        refine va_get (D := D) (ci := 5) (v := .int (om.1 5)) (C := RX5) (T := TX5) (N := 24) hx hb hts hi5 hown hK hP 0 rfl rfl 5 (by decide) hf79 (fun _ h9 => h9) rfl dX5_told_189 ?_
        have e9 : fX5_told om p0 = (om.1 5) := by
          simp only [fX5_told, if_pos c1, if_pos c2, if_neg q3_0, if_neg q3_1, if_neg q3_2, if_neg q3_3, if_pos q3_4]
        exact W.iret hx hb hr (fun t ht hW => ⟨_, rfl, e9.symm, ht⟩) (fun _ h9 => absurd h9 List.not_mem_nil) dX5_told_192
      by_cases q3_5 : p0 = 5
      · refine lv_tableIn (off := 62) (tgt := 193) hx hb dX5_told_131 (by rw [q3_5]; decide) (by rw [q3_5]; decide) (by rw [q3_5]; rfl) (by decide) ?_
        refine lv_aload_n hx hb dX5_told_193 rfl (lv_at hl 0 rfl) ?_
        refine va_get (D := D) (ci := 5) (v := .int (om.1 11)) (C := RX5) (T := TX5) (N := 24) hx hb hts hi5 hown hK hP 0 rfl rfl 11 (by decide) hf189 (fun _ h9 => h9) rfl dX5_told_194 ?_
        have e9 : fX5_told om p0 = (om.1 11) := by
          simp only [fX5_told, if_pos c1, if_pos c2, if_neg q3_0, if_neg q3_1, if_neg q3_2, if_neg q3_3, if_neg q3_4, if_pos q3_5]
        exact W.iret hx hb hr (fun t ht hW => ⟨_, rfl, e9.symm, ht⟩) (fun _ h9 => absurd h9 List.not_mem_nil) dX5_told_197
      have nq3_0 : ¬ (p0).toInt = 0 := fun z9 => q3_0 (Int32.toInt_inj.mp (z9.trans (by decide)))
      have nq3_1 : ¬ (p0).toInt = 1 := fun z9 => q3_1 (Int32.toInt_inj.mp (z9.trans (by decide)))
      have nq3_2 : ¬ (p0).toInt = 2 := fun z9 => q3_2 (Int32.toInt_inj.mp (z9.trans (by decide)))
      have nq3_3 : ¬ (p0).toInt = 3 := fun z9 => q3_3 (Int32.toInt_inj.mp (z9.trans (by decide)))
      have nq3_4 : ¬ (p0).toInt = 4 := fun z9 => q3_4 (Int32.toInt_inj.mp (z9.trans (by decide)))
      have nq3_5 : ¬ (p0).toInt = 5 := fun z9 => q3_5 (Int32.toInt_inj.mp (z9.trans (by decide)))
      refine lv_tableOut (tgt := 198) hx hb dX5_told_131 (by omega) (by decide) ?_
      refine lv_bipush (v := (-2)) hx hb dX5_told_198 (by decide) ?_
      have e9 : fX5_told om p0 = (-2) := by
        simp only [fX5_told, if_pos c1, if_pos c2, if_neg q3_0, if_neg q3_1, if_neg q3_2, if_neg q3_3, if_neg q3_4, if_neg q3_5]
      exact W.iret hx hb hr (fun t ht hW => ⟨_, rfl, e9.symm, ht⟩) (fun _ h9 => absurd h9 List.not_mem_nil) dX5_told_200
    · skip
      refine lv_iload_n hx hb dX5_told_38 rfl (lv_at hl 1 rfl) ?_
      refine lv_bipush (v := 10) hx hb dX5_told_39 (by decide) ?_
      refine lv_idiv hx hb dX5_told_41 (by decide) ?_
      refine lv_iconst (v := 2) hx hb dX5_told_42 (by decide) ?_
      refine lv_isub hx hb dX5_told_43 ?_
      refine lv_istore_n (lv' := [(2, .int ((p0 / 10) - 2)), (0, .ref hm), (1, .int p0)]) hx hb dX5_told_44 rfl hl (by decide) rfl (fun ls hl => ?_)
      refine lv_iload_n hx hb dX5_told_45 rfl (lv_at hl 2 rfl) ?_
      refine lv_bipush (v := 10) hx hb dX5_told_46 (by decide) ?_
      refine lv_irem hx hb dX5_told_48 (by decide) ?_
      refine lv_istore_n (lv' := [(3, .int (p0 - p0 / 10 * 10)), (2, .int ((p0 / 10) - 2)), (0, .ref hm), (1, .int p0)]) hx hb dX5_told_49 rfl hl (by decide) rfl (fun ls hl => ?_)
      refine lv_aload_n hx hb dX5_told_50 rfl (lv_at hl 2 rfl) ?_
      refine lv_iload_n hx hb dX5_told_51 rfl (lv_at hl 1 rfl) ?_
      refine rcVi (b := hm) (As := [.int ((p0 / 10) - 2)]) (rest := []) hSF (kX5_isThere l D cI cZ cC hm am om ((p0 / 10) - 2)) (cwV 1 hts gX5_told_X5_isThere rfl rfl rfl (by decide +kernel) ⟨Nat.le_of_ble_eq_true rfl, Nat.le_of_ble_eq_true rfl⟩) (va_recv hK hP (ci := 5) (q0 := 0) rfl rfl) (hP.sub [0, 1, 2, 3, 4, 5, 6, 7, 8, 9, 10, 11] rfl) hK hN rfl rfl hl.1 (Nat.le_of_ble_eq_true rfl) dX5_told_52 ⟨Nat.zero_le _, Nat.zero_le _⟩ ?_
      refine W_itei (P := (fX5_isThere om ((p0 / 10) - 2)) = 0) (a := 0) (b := (if 4 ≤ (p0 - p0 / 10 * 10) then (0 : Int32) else 1)) (J := 68) (ls9 := ls) (rest9 := []) (fun ja5 jb5 => ?_) ?_
      · refine lv_if_eq (tgt := 67) hx hb dX5_told_55 (by decide) (fun c4 => ?_) (fun c4 => ?_)
        · skip
          refine lv_iconst (v := 0) hx hb dX5_told_67 (by decide) ?_
          exact ja5 c4
        · skip
          refine lv_iload_n hx hb dX5_told_58 rfl (lv_at hl 0 rfl) ?_
          refine lv_iconst (v := 4) hx hb dX5_told_59 (by decide) ?_
          refine W_itei (P := 4 ≤ (p0 - p0 / 10 * 10)) (a := 0) (b := 1) (J := 68) (ls9 := ls) (rest9 := []) (fun ja7 jb7 => ?_) ?_
          · refine lv_icmp_ge (tgt := 67) hx hb dX5_told_60 (by decide) (fun c6 => ?_) (fun c6 => ?_)
            · skip
              refine lv_iconst (v := 0) hx hb dX5_told_67 (by decide) ?_
              exact ja7 c6
            · skip
              refine lv_iconst (v := 1) hx hb dX5_told_63 (by decide) ?_
              refine lv_goto (tgt := 68) hx hb dX5_told_64 (by decide) ?_
              exact jb7 c6
          exact jb5 c4
      refine lv_topi (fun is9 eis9 => ?_)
      refine lv_istore (lv' := [(4, .int is9), (3, .int (p0 - p0 / 10 * 10)), (2, .int ((p0 / 10) - 2)), (0, .ref hm), (1, .int p0)]) hx hb dX5_told_68 hl (by decide) rfl (fun ls hl => ?_)
      refine lv_iload hx hb dX5_told_70 (lv_at hl 0 rfl) ?_
      refine W_itei (P := is9 = 0) (a := (-2)) (b := (if (p0 - p0 / 10 * 10) = 0 then ((om.2 1) ((p0 / 10) - 2).toNatClampNeg) else (if (p0 - p0 / 10 * 10) = 1 then ((om.2 2) ((p0 / 10) - 2).toNatClampNeg) else (if (p0 - p0 / 10 * 10) = 2 then ((om.2 3) ((p0 / 10) - 2).toNatClampNeg) else (((om.1 4) >>> (((p0 / 10) - 2) &&& 31)) &&& 1))))) (J := 129) (ls9 := ls) (rest9 := []) (fun ja9 jb9 => ?_) ?_
      · refine lv_if_ne (tgt := 80) hx hb dX5_told_72 (by decide) (fun c8 => ?_) (fun c8 => ?_)
        · skip
          refine lv_iload_n hx hb dX5_told_80 rfl (lv_at hl 1 rfl) ?_
          refine W_itei (P := (p0 - p0 / 10 * 10) = 0) (a := ((om.2 1) ((p0 / 10) - 2).toNatClampNeg)) (b := (if (p0 - p0 / 10 * 10) = 1 then ((om.2 2) ((p0 / 10) - 2).toNatClampNeg) else (if (p0 - p0 / 10 * 10) = 2 then ((om.2 3) ((p0 / 10) - 2).toNatClampNeg) else (((om.1 4) >>> (((p0 / 10) - 2) &&& 31)) &&& 1)))) (J := 129) (ls9 := ls) (rest9 := []) (fun ja11 jb11 => ?_) ?_
          · refine lv_if_ne (tgt := 93) hx hb dX5_told_81 (by decide) (fun c10 => ?_) (fun c10 => ?_)
            · skip
              refine lv_iload_n hx hb dX5_told_93 rfl (lv_at hl 1 rfl) ?_
              refine lv_iconst (v := 1) hx hb dX5_told_94 (by decide) ?_
              refine W_itei (P := (p0 - p0 / 10 * 10) = 1) (a := ((om.2 2) ((p0 / 10) - 2).toNatClampNeg)) (b := (if (p0 - p0 / 10 * 10) = 2 then ((om.2 3) ((p0 / 10) - 2).toNatClampNeg) else (((om.1 4) >>> (((p0 / 10) - 2) &&& 31)) &&& 1))) (J := 129) (ls9 := ls) (rest9 := []) (fun ja13 jb13 => ?_) ?_
              · refine lv_icmp_ne (tgt := 107) hx hb dX5_told_95 (by decide) (fun c12 => ?_) (fun c12 => ?_)
                · skip
                  refine lv_iload_n hx hb dX5_told_107 rfl (lv_at hl 1 rfl) ?_
                  refine lv_iconst (v := 2) hx hb dX5_told_108 (by decide) ?_
                  refine W_itei (P := (p0 - p0 / 10 * 10) = 2) (a := ((om.2 3) ((p0 / 10) - 2).toNatClampNeg)) (b := (((om.1 4) >>> (((p0 / 10) - 2) &&& 31)) &&& 1)) (J := 129) (ls9 := ls) (rest9 := []) (fun ja15 jb15 => ?_) ?_
                  · refine lv_icmp_ne (tgt := 121) hx hb dX5_told_109 (by decide) (fun c14 => ?_) (fun c14 => ?_)
                    · skip
                      refine lv_aload_n hx hb dX5_told_121 rfl (lv_at hl 3 rfl) ?_
                      refine va_get (D := D) (ci := 5) (v := .int (om.1 4)) (C := RX5) (T := TX5) (N := 24) hx hb hts hi5 hown hK hP 0 rfl rfl 4 (by decide) hf69 (fun _ h9 => h9) rfl dX5_told_122 ?_
                      refine lv_iload_n hx hb dX5_told_125 rfl (lv_at hl 2 rfl) ?_
                      refine lv_ishr hx hb dX5_told_126 ?_
                      refine lv_iconst (v := 1) hx hb dX5_told_127 (by decide) ?_
                      refine lv_iand hx hb dX5_told_128 ?_
                      exact jb15 c14
                    · skip
                      refine lv_aload_n hx hb dX5_told_112 rfl (lv_at hl 3 rfl) ?_
                      refine va_get (D := D) (ci := 5) (v := .ref (am 3)) (C := RX5) (T := TX5) (N := 24) hx hb hts hi5 hown hK hP 0 rfl rfl 3 (by decide) hf16 (fun _ h9 => h9) rfl dX5_told_113 ?_
                      refine lv_iload_n hx hb dX5_told_116 rfl (lv_at hl 2 rfl) ?_
                      refine va_iald (f := (om.2 3)) hx hb hK hP 3 0 rfl rfl (td_in' eis9 (by with_reducible assumption)) dX5_told_117 ?_
                      refine lv_goto (tgt := 129) hx hb dX5_told_118 (by decide) ?_
                      exact ja15 c14
                  exact jb13 c12
                · skip
                  refine lv_aload_n hx hb dX5_told_98 rfl (lv_at hl 3 rfl) ?_
                  refine va_get (D := D) (ci := 5) (v := .ref (am 2)) (C := RX5) (T := TX5) (N := 24) hx hb hts hi5 hown hK hP 0 rfl rfl 2 (by decide) hf13 (fun _ h9 => h9) rfl dX5_told_99 ?_
                  refine lv_iload_n hx hb dX5_told_102 rfl (lv_at hl 2 rfl) ?_
                  refine va_iald (f := (om.2 2)) hx hb hK hP 2 0 rfl rfl (td_in' eis9 (by with_reducible assumption)) dX5_told_103 ?_
                  refine lv_goto (tgt := 129) hx hb dX5_told_104 (by decide) ?_
                  exact ja13 c12
              exact jb11 c10
            · skip
              refine lv_aload_n hx hb dX5_told_84 rfl (lv_at hl 3 rfl) ?_
              refine va_get (D := D) (ci := 5) (v := .ref (am 1)) (C := RX5) (T := TX5) (N := 24) hx hb hts hi5 hown hK hP 0 rfl rfl 1 (by decide) hf7 (fun _ h9 => h9) rfl dX5_told_85 ?_
              refine lv_iload_n hx hb dX5_told_88 rfl (lv_at hl 2 rfl) ?_
              refine va_iald (f := (om.2 1)) hx hb hK hP 1 0 rfl rfl (td_in' eis9 (by with_reducible assumption)) dX5_told_89 ?_
              refine lv_goto (tgt := 129) hx hb dX5_told_90 (by decide) ?_
              exact ja11 c10
          exact jb9 c8
        · skip
          refine lv_bipush (v := (-2)) hx hb dX5_told_75 (by decide) ?_
          refine lv_goto (tgt := 129) hx hb dX5_told_77 (by decide) ?_
          exact ja9 c8
      have e9 : fX5_told om p0 = (if is9 = 0 then ((-2) : Int32) else (if (p0 - p0 / 10 * 10) = 0 then ((om.2 1) ((p0 / 10) - 2).toNatClampNeg) else (if (p0 - p0 / 10 * 10) = 1 then ((om.2 2) ((p0 / 10) - 2).toNatClampNeg) else (if (p0 - p0 / 10 * 10) = 2 then ((om.2 3) ((p0 / 10) - 2).toNatClampNeg) else (((om.1 4) >>> (((p0 / 10) - 2) &&& 31)) &&& 1))))) := by
        simp only [fX5_told, if_pos c1, if_neg c2]
        first | rw [← eis9] | (simp only [if_pos c1, if_neg c2] at eis9; rw [← eis9])
        simp only [fX5_told_is9, if_pos c1, if_neg c2]
      exact W.iret hx hb hr (fun t ht hW => ⟨_, rfl, e9.symm, ht⟩) (fun _ h9 => absurd h9 List.not_mem_nil) dX5_told_129
  · skip
    refine lv_aload_n hx hb dX5_told_14 rfl (lv_at hl 0 rfl) ?_
    refine va_get (D := D) (ci := 5) (v := .ref (am 8)) (C := RX5) (T := TX5) (N := 24) hx hb hts hi5 hown hK hP 0 rfl rfl 8 (by decide) hf19 (fun _ h9 => h9) rfl dX5_told_15 ?_
    refine lv_iload_n hx hb dX5_told_18 rfl (lv_at hl 1 rfl) ?_
    refine lv_bipush (v := 10) hx hb dX5_told_19 (by decide) ?_
    refine lv_isub hx hb dX5_told_21 ?_
    refine va_iald (f := (om.2 8)) hx hb hK hP 4 0 rfl rfl (in_sub (by with_reducible assumption)) dX5_told_22 ?_
    have e9 : fX5_told om p0 = ((om.2 8) (p0 - 10).toNatClampNeg) := by
      simp only [fX5_told, if_neg c1]
    exact W.iret hx hb hr (fun t ht hW => ⟨_, rfl, e9.symm, ht⟩) (fun _ h9 => absurd h9 List.not_mem_nil) dX5_told_23

set_option maxHeartbeats 4000000 in
set_option maxRecDepth 100000 in
theorem kX5_rests (l : Launch) (D : va_G) (cI cZ cC : ClassId) (hm : Nat) (am : Nat → Nat) (om : OV) (p0 : Int32) (h6 : ∃ b : Nat, b < 64 ∧ om.1 0 = nI b) {sz : Nat} : Met l yX5_rests wsX5_rests ({ frames := 9, cells := 0, slots := 0, locals := 211 }) (pW D (tyv cI cZ cC) (wX5 cI cZ hm am om) sz [.ref hm, .int p0]) (va_Qi (fun r (u : OV) => r = (fX5_rests om p0).1 ∧ u = (fX5_rests om p0).2) (qW D (fun (u : OV) => wX5 cI cZ hm am u) (va_A (wX5 cI cZ hm am om) sz)) (va_A (wX5 cI cZ hm am om) sz)) 0 0 (va_A (wX5 cI cZ hm am om) sz) := by
  refine Met.ofW (cc := cX5_rests) (maxL := 7) (ret := (some .int)) (by decide) rfl ?_
  intro p e s m args below meth c s₁ B hml hv
  obtain ⟨rfl, hsz, hP, hK, hN, hD0⟩ := hv
  have hx := B.exec
  have hb := B.bytes
  have hr := B.returns
  have hts := atoms_spec (ws := wsX5_rests) B.pre
  have hown : s.vm.findClass RX5 = some m.cls := findClass_of_methodNamed B.named
  have hlocks := B.notSynchronized
  subst hsz
  have hD := hD0.self (sz := s.heap.size)
  generalize hAe : va_A (wX5 cI cZ hm am om) s.heap.size = A at hD ⊢
  have hA : ∀ q : Nat, s.heap.size ≤ q → A q := fun q h => by rw [← hAe]; exact Or.inr h
  have hS : va_S A s.heap s.heap [] := va_S.rf
  have hP : va_P D vwCl (wX5 cI cZ hm am om) s.heap := hP
  have hl := lv_entry ([.ref hm, .int p0]) (n := 7) (Nat.le_of_ble_eq_true rfl)
  rw [lg_entry_eq]
  generalize (lg_sl ([.ref hm, .int p0]) ++ List.replicate (7 - (lg_sl ([.ref hm, .int p0])).length) Slot.unset).toArray = ls at hl ⊢
  have hl : lv_has ls 7 [(0, .ref hm), (1, .int p0)] := hl
  have hSF : CallFix p m c cX5_rests 7 s _ wsX5_rests RX5 := ⟨hx, hb, hml, hown, hts⟩
  have hi5 : ∀ w ∈ wsX50, w ∈ wsX5_rests := by decide +kernel
  have hf63 : (Cond.fieldLink RX5 63 "UmbrellaVoteModel" "there" "I").before _ s = true := hts _ (by decide +kernel)
  refine lv_aload_n hx hb dX5_rests_0 rfl (lv_at hl 0 rfl) ?_
  refine va_get (D := D) (ci := 5) (v := .int (om.1 0)) (C := RX5) (T := TX5) (N := 24) hx hb hts hi5 hown hK hP 0 rfl rfl 0 (by decide) hf63 (fun _ h9 => h9) rfl dX5_rests_1 ?_
  refine rcSi (As := [.int (om.1 0)]) (rest := []) hSF (kX5_ones l D cI cZ cC (om.1 0) h6) (va_cwS 1 hts gX5_rests_X5_ones rfl rfl rfl (by decide +kernel) ⟨Nat.le_of_ble_eq_true rfl, Nat.le_of_ble_eq_true rfl⟩) (hP.sub [] rfl) hK hN rfl rfl hl.1 (Nat.le_of_ble_eq_true rfl) dX5_rests_4 ⟨Nat.zero_le _, Nat.zero_le _⟩ ?_
  refine lv_istore_n (lv' := [(2, .int (fX5_ones (om.1 0))), (0, .ref hm), (1, .int p0)]) hx hb dX5_rests_7 rfl hl (by decide) rfl (fun ls hl => ?_)
  refine lv_iload_n hx hb dX5_rests_8 rfl (lv_at hl 0 rfl) ?_
  refine lv_iconst (v := 3) hx hb dX5_rests_9 (by decide) ?_
  refine lv_icmp_le (tgt := 16) hx hb dX5_rests_10 (by decide) (fun c1 => ?_) (fun c1 => ?_)
  · skip
    refine lv_iload_n hx hb dX5_rests_16 rfl (lv_at hl 0 rfl) ?_
    refine W_itei (P := (fX5_ones (om.1 0)) = 0) (a := 1) (b := (if (fX5_ones (om.1 0)) = 1 then (10 : Int32) else (if (fX5_ones (om.1 0)) = 2 then (100 : Int32) else 1000))) (J := 47) (ls9 := ls) (rest9 := []) (fun ja3 jb3 => ?_) ?_
    · refine lv_if_ne (tgt := 24) hx hb dX5_rests_17 (by decide) (fun c2 => ?_) (fun c2 => ?_)
      · skip
        refine lv_iload_n hx hb dX5_rests_24 rfl (lv_at hl 0 rfl) ?_
        refine lv_iconst (v := 1) hx hb dX5_rests_25 (by decide) ?_
        refine W_itei (P := (fX5_ones (om.1 0)) = 1) (a := 10) (b := (if (fX5_ones (om.1 0)) = 2 then (100 : Int32) else 1000)) (J := 47) (ls9 := ls) (rest9 := []) (fun ja5 jb5 => ?_) ?_
        · refine lv_icmp_ne (tgt := 34) hx hb dX5_rests_26 (by decide) (fun c4 => ?_) (fun c4 => ?_)
          · skip
            refine lv_iload_n hx hb dX5_rests_34 rfl (lv_at hl 0 rfl) ?_
            refine lv_iconst (v := 2) hx hb dX5_rests_35 (by decide) ?_
            refine W_itei (P := (fX5_ones (om.1 0)) = 2) (a := 100) (b := 1000) (J := 47) (ls9 := ls) (rest9 := []) (fun ja7 jb7 => ?_) ?_
            · refine lv_icmp_ne (tgt := 44) hx hb dX5_rests_36 (by decide) (fun c6 => ?_) (fun c6 => ?_)
              · skip
                refine lv_sipush (v := 1000) hx hb dX5_rests_44 (by decide) ?_
                exact jb7 c6
              · skip
                refine lv_bipush (v := 100) hx hb dX5_rests_39 (by decide) ?_
                refine lv_goto (tgt := 47) hx hb dX5_rests_41 (by decide) ?_
                exact ja7 c6
            exact jb5 c4
          · skip
            refine lv_bipush (v := 10) hx hb dX5_rests_29 (by decide) ?_
            refine lv_goto (tgt := 47) hx hb dX5_rests_31 (by decide) ?_
            exact ja5 c4
        exact jb3 c2
      · skip
        refine lv_iconst (v := 1) hx hb dX5_rests_20 (by decide) ?_
        refine lv_goto (tgt := 47) hx hb dX5_rests_21 (by decide) ?_
        exact ja3 c2
    refine lv_topi (fun rows erows => ?_)
    refine lv_istore_n (lv' := [(3, .int rows), (2, .int (fX5_ones (om.1 0))), (0, .ref hm), (1, .int p0)]) hx hb dX5_rests_47 rfl hl (by decide) rfl (fun ls hl => ?_)
    refine lv_aload_n hx hb dX5_rests_48 rfl (lv_at hl 2 rfl) ?_
    refine wcVv (b := hm) (As := []) (rest := []) (wr := []) (ws' := wX5 cI cZ hm am (fX5_keepPlaces om)) hSF (kX5_keepPlaces l D cI cZ cC hm am om) (cwV 0 hts gX5_rests_X5_keepPlaces rfl rfl rfl (by decide +kernel) ⟨Nat.le_of_ble_eq_true rfl, Nat.le_of_ble_eq_true rfl⟩) (va_recv hK hP (ci := 5) (q0 := 0) rfl rfl) hP hD hS hA hK hN [0, 1, 2, 3, 4, 5, 6, 7, 8, 9, 10, 11] [] [0, 1, 2, 3, 4, 5, 6, 7, 8, 9, 10, 11] rfl (by decide) rfl (by decide) (by decide) rfl (by decide) rfl rfl hl.1 (Nat.le_of_ble_eq_true rfl) dX5_rests_49 ⟨Nat.zero_le _, Nat.zero_le _⟩ (fun H locs hP hD hS => ?_)
    refine lv_iconst (v := 0) hx hb dX5_rests_52 (by decide) ?_
    refine lv_istore (lv' := [(4, .int 0), (3, .int rows), (2, .int (fX5_ones (om.1 0))), (0, .ref hm), (1, .int p0)]) hx hb dX5_rests_53 hl (by decide) rfl (fun ls hl => ?_)
    refine lv_bipush (v := (-6)) hx hb dX5_rests_55 (by decide) ?_
    refine lv_istore (lv' := [(5, .int (-6)), (4, .int 0), (3, .int rows), (2, .int (fX5_ones (om.1 0))), (0, .ref hm), (1, .int p0)]) hx hb dX5_rests_57 hl (by decide) rfl (fun ls hl => ?_)
    refine lv_iconst (v := 0) hx hb dX5_rests_59 (by decide) ?_
    refine lv_istore (lv' := [(6, .int 0), (5, .int (-6)), (4, .int 0), (3, .int rows), (2, .int (fX5_ones (om.1 0))), (0, .ref hm), (1, .int p0)]) hx hb dX5_rests_60 hl (by decide) rfl (fun ls hl => ?_)
    refine W_lpW ((rows.toNatClampNeg)) (fun k9 H9 locs9 ls9 => va_P D vwCl (wX5 cI cZ hm am (fX5_rests_L62 p0 (-6) 0 (fX5_keepPlaces om) k9).2.2) H9 ∧ va_D A (wX5 cI cZ hm am (fX5_rests_L62 p0 (-6) 0 (fX5_keepPlaces om) k9).2.2) ∧ va_S A s.heap H9 locs9 ∧ lv_has ls9 7 [(6, .int (nI k9)), (5, .int (fX5_rests_L62 p0 (-6) 0 (fX5_keepPlaces om) k9).1), (4, .int (fX5_rests_L62 p0 (-6) 0 (fX5_keepPlaces om) k9).2.1), (3, .int rows), (2, .int (fX5_ones (om.1 0))), (0, .ref hm), (1, .int p0)]) ⟨hP, hD, hS, lv_sub hl [0, 1, 2, 3, 4, 5, 6] rfl⟩ ?_ ?_
    · intro k8 H locs ls hk8 hI9 ih8
      obtain ⟨hP, hD, hS, hl⟩ := hI9
      generalize hs8 : fX5_rests_L62 p0 (-6) 0 (fX5_keepPlaces om) k8 = y8 at hP hD hl
      obtain ⟨x5_8, x4_8, om8⟩ := y8
      try dsimp only at hP hD hl
      have hP : va_P D vwCl (wX5 cI cZ hm am om8) H := hP
      have hD : va_D A (wX5 cI cZ hm am om8) := hD
      have hl : lv_has ls 7 [(6, .int (nI k8)), (5, .int x5_8), (4, .int x4_8), (3, .int rows), (2, .int (fX5_ones (om.1 0))), (0, .ref hm), (1, .int p0)] := hl
      refine lv_iload hx hb dX5_rests_62 (lv_at hl 0 rfl) ?_
      refine lv_iload_n hx hb dX5_rests_64 rfl (lv_at hl 3 rfl) ?_
      refine lv_icmp_ge (tgt := 105) hx hb dX5_rests_65 (by decide) (fun c9 => absurd c9 (bnd_nle (rs_b erows) hk8 (cl_lt _))) (fun c9 => ?_)
      refine lv_aload_n hx hb dX5_rests_68 rfl (lv_at hl 5 rfl) ?_
      refine lv_iload hx hb dX5_rests_69 (lv_at hl 0 rfl) ?_
      refine wcVv (b := hm) (As := [.int (nI k8)]) (rest := []) (wr := []) (ws' := wX5 cI cZ hm am (fX5_layPlaces om8 (nI k8))) hSF (kX5_layPlaces l D cI cZ cC hm am om8 (nI k8)) (cwV 1 hts gX5_rests_X5_layPlaces rfl rfl rfl (by decide +kernel) ⟨Nat.le_of_ble_eq_true rfl, Nat.le_of_ble_eq_true rfl⟩) (va_recv hK hP (ci := 5) (q0 := 0) rfl rfl) hP hD hS hA hK hN [0, 1, 2, 3, 4, 5, 6, 7, 8, 9, 10, 11] [] [0, 1, 2, 3, 4, 5, 6, 7, 8, 9, 10, 11] rfl (by decide) rfl (by decide) (by decide) rfl (by decide) rfl rfl hl.1 (Nat.le_of_ble_eq_true rfl) dX5_rests_71 ⟨Nat.zero_le _, Nat.zero_le _⟩ (fun H locs hP hD hS => ?_)
      refine lv_aload_n hx hb dX5_rests_74 rfl (lv_at hl 5 rfl) ?_
      refine wcVi (b := hm) (As := []) (rest := []) (wr := []) (ws' := wX5 cI cZ hm am (fX5_areAtRest (fX5_layPlaces om8 (nI k8))).2) hSF (kX5_areAtRest l D cI cZ cC hm am (fX5_layPlaces om8 (nI k8))) (cwV 0 hts gX5_rests_X5_areAtRest rfl rfl rfl (by decide +kernel) ⟨Nat.le_of_ble_eq_true rfl, Nat.le_of_ble_eq_true rfl⟩) (va_recv hK hP (ci := 5) (q0 := 0) rfl rfl) hP hD hS hA hK hN [0, 1, 2, 3, 4, 5, 6, 7, 8, 9, 10, 11] [] [0, 1, 2, 3, 4, 5, 6, 7, 8, 9, 10, 11] rfl (by decide) rfl (by decide) (by decide) rfl (by decide) rfl rfl hl.1 (Nat.le_of_ble_eq_true rfl) dX5_rests_75 ⟨Nat.zero_le _, Nat.zero_le _⟩ (fun H locs hP hD hS => ?_)
      refine lv_if_eq (tgt := 99) hx hb dX5_rests_78 (by decide) (fun c10 => ?_) (fun c10 => ?_)
      · skip
        refine lv_iinc (v := ((nI k8) + 1)) (lv' := [(6, .int ((nI k8) + 1)), (5, .int x5_8), (4, .int x4_8), (3, .int rows), (2, .int (fX5_ones (om.1 0))), (0, .ref hm), (1, .int p0)]) hx hb dX5_rests_99 hl (k := 0) rfl rfl (by decide) rfl (fun ls hl => ?_)
        refine lv_goto (tgt := 62) hx hb dX5_rests_102 (by decide) ?_
        have e8 : fX5_rests_L62s p0 k8 x5_8 x4_8 om8 = (x5_8, x4_8, (fX5_areAtRest (fX5_layPlaces om8 (nI k8))).2) := by
          simp only [fX5_rests_L62s, if_pos c10]
        have e7 : fX5_rests_L62 p0 (-6) 0 (fX5_keepPlaces om) (k8 + 1) = (x5_8, x4_8, (fX5_areAtRest (fX5_layPlaces om8 (nI k8))).2) := by
          show fX5_rests_L62s p0 k8 (fX5_rests_L62 p0 (-6) 0 (fX5_keepPlaces om) k8).1 (fX5_rests_L62 p0 (-6) 0 (fX5_keepPlaces om) k8).2.1 (fX5_rests_L62 p0 (-6) 0 (fX5_keepPlaces om) k8).2.2 = _
          rw [hs8]; exact e8
        have hl9 : lv_has ls 7 [(6, .int (nI (k8 + 1))), (5, .int (fX5_rests_L62 p0 (-6) 0 (fX5_keepPlaces om) (k8 + 1)).1), (4, .int (fX5_rests_L62 p0 (-6) 0 (fX5_keepPlaces om) (k8 + 1)).2.1), (3, .int rows), (2, .int (fX5_ones (om.1 0))), (0, .ref hm), (1, .int p0)] := by
          rw [nI_succ, e7]; exact lv_sub hl [0, 1, 2, 3, 4, 5, 6] rfl
        exact ih8 H locs ls ⟨by rw [e7]; exact hP, by rw [e7]; exact hD, hS, hl9⟩
      · skip
        refine lv_iload hx hb dX5_rests_81 (lv_at hl 2 rfl) ?_
        refine lv_iload_n hx hb dX5_rests_83 rfl (lv_at hl 6 rfl) ?_
        refine W_itei (P := x4_8 = p0) (a := (nI k8)) (b := x5_8) (J := 94) (ls9 := ls) (rest9 := []) (fun ja12 jb12 => ?_) ?_
        · refine lv_icmp_ne (tgt := 92) hx hb dX5_rests_84 (by decide) (fun c11 => ?_) (fun c11 => ?_)
          · skip
            refine lv_iload hx hb dX5_rests_92 (lv_at hl 1 rfl) ?_
            exact jb12 c11
          · skip
            refine lv_iload hx hb dX5_rests_87 (lv_at hl 0 rfl) ?_
            refine lv_goto (tgt := 94) hx hb dX5_rests_89 (by decide) ?_
            exact ja12 c11
        refine lv_istore (lv' := [(5, .int (if x4_8 = p0 then (nI k8) else x5_8)), (6, .int (nI k8)), (4, .int x4_8), (3, .int rows), (2, .int (fX5_ones (om.1 0))), (0, .ref hm), (1, .int p0)]) hx hb dX5_rests_94 hl (by decide) rfl (fun ls hl => ?_)
        refine lv_iinc (v := (x4_8 + 1)) (lv' := [(4, .int (x4_8 + 1)), (5, .int (if x4_8 = p0 then (nI k8) else x5_8)), (6, .int (nI k8)), (3, .int rows), (2, .int (fX5_ones (om.1 0))), (0, .ref hm), (1, .int p0)]) hx hb dX5_rests_96 hl (k := 2) rfl rfl (by decide) rfl (fun ls hl => ?_)
        refine lv_iinc (v := ((nI k8) + 1)) (lv' := [(6, .int ((nI k8) + 1)), (4, .int (x4_8 + 1)), (5, .int (if x4_8 = p0 then (nI k8) else x5_8)), (3, .int rows), (2, .int (fX5_ones (om.1 0))), (0, .ref hm), (1, .int p0)]) hx hb dX5_rests_99 hl (k := 2) rfl rfl (by decide) rfl (fun ls hl => ?_)
        refine lv_goto (tgt := 62) hx hb dX5_rests_102 (by decide) ?_
        have e8 : fX5_rests_L62s p0 k8 x5_8 x4_8 om8 = ((if x4_8 = p0 then (nI k8) else x5_8), (x4_8 + 1), (fX5_areAtRest (fX5_layPlaces om8 (nI k8))).2) := by
          simp only [fX5_rests_L62s, if_neg c10]
        have e7 : fX5_rests_L62 p0 (-6) 0 (fX5_keepPlaces om) (k8 + 1) = ((if x4_8 = p0 then (nI k8) else x5_8), (x4_8 + 1), (fX5_areAtRest (fX5_layPlaces om8 (nI k8))).2) := by
          show fX5_rests_L62s p0 k8 (fX5_rests_L62 p0 (-6) 0 (fX5_keepPlaces om) k8).1 (fX5_rests_L62 p0 (-6) 0 (fX5_keepPlaces om) k8).2.1 (fX5_rests_L62 p0 (-6) 0 (fX5_keepPlaces om) k8).2.2 = _
          rw [hs8]; exact e8
        have hl9 : lv_has ls 7 [(6, .int (nI (k8 + 1))), (5, .int (fX5_rests_L62 p0 (-6) 0 (fX5_keepPlaces om) (k8 + 1)).1), (4, .int (fX5_rests_L62 p0 (-6) 0 (fX5_keepPlaces om) (k8 + 1)).2.1), (3, .int rows), (2, .int (fX5_ones (om.1 0))), (0, .ref hm), (1, .int p0)] := by
          rw [nI_succ, e7]; exact lv_sub hl [0, 2, 1, 3, 4, 5, 6] rfl
        exact ih8 H locs ls ⟨by rw [e7]; exact hP, by rw [e7]; exact hD, hS, hl9⟩
    intro H locs ls hI9
    obtain ⟨hP, hD, hS, hl⟩ := hI9
    refine lv_iload hx hb dX5_rests_62 (lv_at hl 0 rfl) ?_
    refine lv_iload_n hx hb dX5_rests_64 rfl (lv_at hl 3 rfl) ?_
    refine lv_icmp_ge (tgt := 105) hx hb dX5_rests_65 (by decide) (fun c13 => ?_) (fun c13 => absurd (bnd_le (rs_b erows)) c13)
    refine lv_aload_n hx hb dX5_rests_105 rfl (lv_at hl 5 rfl) ?_
    refine wcVv (b := hm) (As := []) (rest := []) (wr := []) (ws' := wX5 cI cZ hm am (fX5_putPlaces ((fX5_rests_L62 p0 (-6) 0 (fX5_keepPlaces om) ((rows.toNatClampNeg))).2.2))) hSF (kX5_putPlaces l D cI cZ cC hm am (fX5_rests_L62 p0 (-6) 0 (fX5_keepPlaces om) ((rows.toNatClampNeg))).2.2) (cwV 0 hts gX5_rests_X5_putPlaces rfl rfl rfl (by decide +kernel) ⟨Nat.le_of_ble_eq_true rfl, Nat.le_of_ble_eq_true rfl⟩) (va_recv hK hP (ci := 5) (q0 := 0) rfl rfl) hP hD hS hA hK hN [0, 1, 2, 3, 4, 5, 6, 7, 8, 9, 10, 11] [] [0, 1, 2, 3, 4, 5, 6, 7, 8, 9, 10, 11] rfl (by decide) rfl (by decide) (by decide) rfl (by decide) rfl rfl hl.1 (Nat.le_of_ble_eq_true rfl) dX5_rests_106 ⟨Nat.zero_le _, Nat.zero_le _⟩ (fun H locs hP hD hS => ?_)
    refine lv_iload_n hx hb dX5_rests_109 rfl (lv_at hl 6 rfl) ?_
    refine lv_iconst (v := (-1)) hx hb dX5_rests_110 (by decide) ?_
    refine W_itei (P := p0 = (-1)) (a := (fX5_rests_L62 p0 (-6) 0 (fX5_keepPlaces om) ((rows.toNatClampNeg))).2.1) (b := (fX5_rests_L62 p0 (-6) 0 (fX5_keepPlaces om) ((rows.toNatClampNeg))).1) (J := 121) (ls9 := ls) (rest9 := []) (fun ja15 jb15 => ?_) ?_
    · refine lv_icmp_ne (tgt := 119) hx hb dX5_rests_111 (by decide) (fun c14 => ?_) (fun c14 => ?_)
      · skip
        refine lv_iload hx hb dX5_rests_119 (lv_at hl 1 rfl) ?_
        exact jb15 c14
      · skip
        refine lv_iload hx hb dX5_rests_114 (lv_at hl 2 rfl) ?_
        refine lv_goto (tgt := 121) hx hb dX5_rests_116 (by decide) ?_
        exact ja15 c14
    have e9 : fX5_rests om p0 = ((if p0 = (-1) then (fX5_rests_L62 p0 (-6) 0 (fX5_keepPlaces om) ((rows.toNatClampNeg))).2.1 else (fX5_rests_L62 p0 (-6) 0 (fX5_keepPlaces om) ((rows.toNatClampNeg))).1), (fX5_putPlaces ((fX5_rests_L62 p0 (-6) 0 (fX5_keepPlaces om) ((rows.toNatClampNeg))).2.2))) := by
      simp only [fX5_rests, if_pos c1]
      first | rw [← erows] | (simp only [if_pos c1] at erows; rw [← erows])
      simp only [fX5_rests_rows, if_pos c1]
    exact W.iret hx hb hr (fun t ht hW => ⟨⟨_, (fX5_putPlaces ((fX5_rests_L62 p0 (-6) 0 (fX5_keepPlaces om) ((rows.toNatClampNeg))).2.2)), rfl, ⟨by rw [e9], by rw [e9]⟩, ⟨by rw [ht]; exact hP, hD⟩⟩, hS.F ht⟩) hS.2.2 dX5_rests_121
  · skip
    refine lv_bipush (v := (-4)) hx hb dX5_rests_13 (by decide) ?_
    have e9 : fX5_rests om p0 = (((-4) : Int32), om) := by
      simp only [fX5_rests, if_neg c1]
    exact W.iret hx hb hr (fun t ht hW => ⟨⟨_, om, rfl, ⟨by rw [e9], by rw [e9]⟩, ⟨by rw [ht]; exact hP, hD⟩⟩, hS.F ht⟩) hS.2.2 dX5_rests_15

