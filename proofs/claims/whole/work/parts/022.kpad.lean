set_option maxHeartbeats 4000000 in
set_option maxRecDepth 100000 in
theorem kX2_takesAnother (l : Launch) (D : va_G) (cI cZ cC : ClassId)  (p0 : Int32)  : Met l yX2_takesAnother wsX2_takesAnother ({ frames := 0, cells := 0, slots := 0, locals := 0 }) (pR D (tyv cI cZ cC) ([]) [.int p0]) (vp_Si (fun r => r = fX2_takesAnother p0)) 0 0 (fun _ => False) := by
  refine Met.ofW (cc := cX2_takesAnother) (maxL := 1) (ret := (some .boolean)) (by decide) rfl ?_
  intro p e s m args below meth c s₁ B hml hv
  obtain ⟨rfl, hP, hK, hN⟩ := hv
  have hx := B.exec
  have hb := B.bytes
  have hr := B.returns
  have hts := atoms_spec (ws := wsX2_takesAnother) B.pre
  have hown : s.vm.findClass RX2 = some m.cls := findClass_of_methodNamed B.named
  have hlocks := B.notSynchronized
  have hP : va_P D vwCl ([]) s.heap := hP
  have hl := lv_entry ([.int p0]) (n := 1) (Nat.le_of_ble_eq_true rfl)
  rw [lg_entry_eq]
  generalize (lg_sl ([.int p0]) ++ List.replicate (1 - (lg_sl ([.int p0])).length) Slot.unset).toArray = ls at hl ⊢
  have hl : lv_has ls 1 [(0, .int p0)] := hl
  have hSF : CallFix p m c cX2_takesAnother 1 s _ wsX2_takesAnother RX2 := ⟨hx, hb, hml, hown, hts⟩
  refine lv_iload_n hx hb dX2_takesAnother_0 rfl (lv_at hl 0 rfl) ?_
  refine lv_bipush (v := 33) hx hb dX2_takesAnother_1 (by decide) ?_
  refine W_itei (P := p0 = 33) (a := 1) (b := (if p0 = 45 then (1 : Int32) else (if p0 = 126 then (1 : Int32) else 0))) (J := 23) (ls9 := ls) (rest9 := []) (fun ja2 jb2 => ?_) ?_
  · refine lv_icmp_eq (tgt := 18) hx hb dX2_takesAnother_3 (by decide) (fun c1 => ?_) (fun c1 => ?_)
    · skip
      refine lv_iconst (v := 1) hx hb dX2_takesAnother_18 (by decide) ?_
      refine lv_goto (tgt := 23) hx hb dX2_takesAnother_19 (by decide) ?_
      exact ja2 c1
    · skip
      refine lv_iload_n hx hb dX2_takesAnother_6 rfl (lv_at hl 0 rfl) ?_
      refine lv_bipush (v := 45) hx hb dX2_takesAnother_7 (by decide) ?_
      refine W_itei (P := p0 = 45) (a := 1) (b := (if p0 = 126 then (1 : Int32) else 0)) (J := 23) (ls9 := ls) (rest9 := []) (fun ja4 jb4 => ?_) ?_
      · refine lv_icmp_eq (tgt := 18) hx hb dX2_takesAnother_9 (by decide) (fun c3 => ?_) (fun c3 => ?_)
        · skip
          refine lv_iconst (v := 1) hx hb dX2_takesAnother_18 (by decide) ?_
          refine lv_goto (tgt := 23) hx hb dX2_takesAnother_19 (by decide) ?_
          exact ja4 c3
        · skip
          refine lv_iload_n hx hb dX2_takesAnother_12 rfl (lv_at hl 0 rfl) ?_
          refine lv_bipush (v := 126) hx hb dX2_takesAnother_13 (by decide) ?_
          refine W_itei (P := p0 = 126) (a := 1) (b := 0) (J := 23) (ls9 := ls) (rest9 := []) (fun ja6 jb6 => ?_) ?_
          · refine lv_icmp_ne (tgt := 22) hx hb dX2_takesAnother_15 (by decide) (fun c5 => ?_) (fun c5 => ?_)
            · skip
              refine lv_iconst (v := 0) hx hb dX2_takesAnother_22 (by decide) ?_
              exact jb6 c5
            · skip
              refine lv_iconst (v := 1) hx hb dX2_takesAnother_18 (by decide) ?_
              refine lv_goto (tgt := 23) hx hb dX2_takesAnother_19 (by decide) ?_
              exact ja6 c5
          exact jb4 c3
      exact jb2 c1
  have e9 : fX2_takesAnother p0 = (if p0 = 33 then (1 : Int32) else (if p0 = 45 then (1 : Int32) else (if p0 = 126 then (1 : Int32) else 0))) := by
    rfl
  exact W.zret hx hb hr (nar_z (if_z (Or.inr rfl) (if_z (Or.inr rfl) (if_z (Or.inr rfl) (Or.inl rfl))))) (fun t ht hW => ⟨_, rfl, e9.symm, ht⟩) (fun _ h9 => absurd h9 List.not_mem_nil) dX2_takesAnother_23

set_option maxHeartbeats 4000000 in
set_option maxRecDepth 100000 in
theorem kX2_canBegin (l : Launch) (D : va_G) (cI cZ cC : ClassId)  (p0 : Int32)  : Met l yX2_canBegin wsX2_canBegin ({ frames := 1, cells := 0, slots := 0, locals := 22 }) (pR D (tyv cI cZ cC) ([]) [.int p0]) (vp_Si (fun r => r = fX2_canBegin p0)) 0 0 (fun _ => False) := by
  refine Met.ofW (cc := cX2_canBegin) (maxL := 1) (ret := (some .boolean)) (by decide) rfl ?_
  intro p e s m args below meth c s₁ B hml hv
  obtain ⟨rfl, hP, hK, hN⟩ := hv
  have hx := B.exec
  have hb := B.bytes
  have hr := B.returns
  have hts := atoms_spec (ws := wsX2_canBegin) B.pre
  have hown : s.vm.findClass RX2 = some m.cls := findClass_of_methodNamed B.named
  have hlocks := B.notSynchronized
  have hP : va_P D vwCl ([]) s.heap := hP
  have hl := lv_entry ([.int p0]) (n := 1) (Nat.le_of_ble_eq_true rfl)
  rw [lg_entry_eq]
  generalize (lg_sl ([.int p0]) ++ List.replicate (1 - (lg_sl ([.int p0])).length) Slot.unset).toArray = ls at hl ⊢
  have hl : lv_has ls 1 [(0, .int p0)] := hl
  have hSF : CallFix p m c cX2_canBegin 1 s _ wsX2_canBegin RX2 := ⟨hx, hb, hml, hown, hts⟩
  refine lv_iload_n hx hb dX2_canBegin_0 rfl (lv_at hl 0 rfl) ?_
  refine lv_bipush (v := 48) hx hb dX2_canBegin_1 (by decide) ?_
  refine lv_bipush (v := 57) hx hb dX2_canBegin_3 (by decide) ?_
  refine rcNi (As := [.int p0, .int 48, .int 57]) (rest := []) hSF (kX4_within l D cI cZ cC p0 48 57) (va_cnB 3 hts gX2_canBegin_X4_within_n19 rfl rfl rfl (hN.1 (.methodLinkNest RX2 19 yX4_within "UmbrellaVote") (by decide +kernel)) (hts (.initialized RX4) (by decide +kernel)) (by decide +kernel) ⟨Nat.le_of_ble_eq_true rfl, Nat.le_of_ble_eq_true rfl⟩) (hts (.static yX4_within) (by decide +kernel)) (hP.sub [] rfl) hK hN rfl rfl hl.1 (Nat.le_of_ble_eq_true rfl) dX2_canBegin_5 ⟨Nat.zero_le _, Nat.zero_le _⟩ ?_
  refine W_itei (P := (fX4_within p0 48 57) = 0) (a := (if p0 = 46 then (1 : Int32) else (if (fX2_takesAnother p0) = 0 then (0 : Int32) else 1))) (b := 1) (J := 29) (ls9 := ls) (rest9 := []) (fun ja2 jb2 => ?_) ?_
  · refine lv_if_ne (tgt := 24) hx hb dX2_canBegin_8 (by decide) (fun c1 => ?_) (fun c1 => ?_)
    · skip
      refine lv_iconst (v := 1) hx hb dX2_canBegin_24 (by decide) ?_
      refine lv_goto (tgt := 29) hx hb dX2_canBegin_25 (by decide) ?_
      exact jb2 c1
    · skip
      refine lv_iload_n hx hb dX2_canBegin_11 rfl (lv_at hl 0 rfl) ?_
      refine lv_bipush (v := 46) hx hb dX2_canBegin_12 (by decide) ?_
      refine W_itei (P := p0 = 46) (a := 1) (b := (if (fX2_takesAnother p0) = 0 then (0 : Int32) else 1)) (J := 29) (ls9 := ls) (rest9 := []) (fun ja4 jb4 => ?_) ?_
      · refine lv_icmp_eq (tgt := 24) hx hb dX2_canBegin_14 (by decide) (fun c3 => ?_) (fun c3 => ?_)
        · skip
          refine lv_iconst (v := 1) hx hb dX2_canBegin_24 (by decide) ?_
          refine lv_goto (tgt := 29) hx hb dX2_canBegin_25 (by decide) ?_
          exact ja4 c3
        · skip
          refine lv_iload_n hx hb dX2_canBegin_17 rfl (lv_at hl 0 rfl) ?_
          refine rcSi (As := [.int p0]) (rest := []) hSF (kX2_takesAnother l D cI cZ cC p0) (va_cwS 1 hts gX2_canBegin_X2_takesAnother rfl rfl rfl (by decide +kernel) ⟨Nat.le_of_ble_eq_true rfl, Nat.le_of_ble_eq_true rfl⟩) (hP.sub [] rfl) hK hN rfl rfl hl.1 (Nat.le_of_ble_eq_true rfl) dX2_canBegin_18 ⟨Nat.zero_le _, Nat.zero_le _⟩ ?_
          refine W_itei (P := (fX2_takesAnother p0) = 0) (a := 0) (b := 1) (J := 29) (ls9 := ls) (rest9 := []) (fun ja6 jb6 => ?_) ?_
          · refine lv_if_eq (tgt := 28) hx hb dX2_canBegin_21 (by decide) (fun c5 => ?_) (fun c5 => ?_)
            · skip
              refine lv_iconst (v := 0) hx hb dX2_canBegin_28 (by decide) ?_
              exact ja6 c5
            · skip
              refine lv_iconst (v := 1) hx hb dX2_canBegin_24 (by decide) ?_
              refine lv_goto (tgt := 29) hx hb dX2_canBegin_25 (by decide) ?_
              exact jb6 c5
          exact jb4 c3
      exact ja2 c1
  have e9 : fX2_canBegin p0 = (if (fX4_within p0 48 57) = 0 then (if p0 = 46 then (1 : Int32) else (if (fX2_takesAnother p0) = 0 then (0 : Int32) else 1)) else 1) := by
    rfl
  exact W.zret hx hb hr (nar_z (if_z (if_z (Or.inr rfl) (if_z (Or.inl rfl) (Or.inr rfl))) (Or.inr rfl))) (fun t ht hW => ⟨_, rfl, e9.symm, ht⟩) (fun _ h9 => absurd h9 List.not_mem_nil) dX2_canBegin_29

set_option maxHeartbeats 4000000 in
set_option maxRecDepth 100000 in
theorem kX2_canFollow (l : Launch) (D : va_G) (cI cZ cC : ClassId)  (p0 : Int32) (p1 : Int32)  : Met l yX2_canFollow wsX2_canFollow ({ frames := 1, cells := 0, slots := 0, locals := 22 }) (pR D (tyv cI cZ cC) ([]) [.int p0, .int p1]) (vp_Si (fun r => r = fX2_canFollow p0 p1)) 0 0 (fun _ => False) := by
  refine Met.ofW (cc := cX2_canFollow) (maxL := 2) (ret := (some .boolean)) (by decide) rfl ?_
  intro p e s m args below meth c s₁ B hml hv
  obtain ⟨rfl, hP, hK, hN⟩ := hv
  have hx := B.exec
  have hb := B.bytes
  have hr := B.returns
  have hts := atoms_spec (ws := wsX2_canFollow) B.pre
  have hown : s.vm.findClass RX2 = some m.cls := findClass_of_methodNamed B.named
  have hlocks := B.notSynchronized
  have hP : va_P D vwCl ([]) s.heap := hP
  have hl := lv_entry ([.int p0, .int p1]) (n := 2) (Nat.le_of_ble_eq_true rfl)
  rw [lg_entry_eq]
  generalize (lg_sl ([.int p0, .int p1]) ++ List.replicate (2 - (lg_sl ([.int p0, .int p1])).length) Slot.unset).toArray = ls at hl ⊢
  have hl : lv_has ls 2 [(0, .int p0), (1, .int p1)] := hl
  have hSF : CallFix p m c cX2_canFollow 2 s _ wsX2_canFollow RX2 := ⟨hx, hb, hml, hown, hts⟩
  refine lv_iload_n hx hb dX2_canFollow_0 rfl (lv_at hl 0 rfl) ?_
  by_cases q1_0 : p0 = 33
  · refine lv_lookup (off := 27) (tgt := 28) hx hb dX2_canFollow_1 (by decide) (by rw [q1_0]; decide) (by decide) ?_
    refine lv_iload_n hx hb dX2_canFollow_28 rfl (lv_at hl 1 rfl) ?_
    refine lv_bipush (v := 48) hx hb dX2_canFollow_29 (by decide) ?_
    refine lv_bipush (v := 57) hx hb dX2_canFollow_31 (by decide) ?_
    refine rcNi (As := [.int p1, .int 48, .int 57]) (rest := []) hSF (kX4_within l D cI cZ cC p1 48 57) (va_cnB 3 hts gX2_canFollow_X4_within_n19 rfl rfl rfl (hN.1 (.methodLinkNest RX2 19 yX4_within "UmbrellaVote") (by decide +kernel)) (hts (.initialized RX4) (by decide +kernel)) (by decide +kernel) ⟨Nat.le_of_ble_eq_true rfl, Nat.le_of_ble_eq_true rfl⟩) (hts (.static yX4_within) (by decide +kernel)) (hP.sub [] rfl) hK hN rfl rfl hl.1 (Nat.le_of_ble_eq_true rfl) dX2_canFollow_33 ⟨Nat.zero_le _, Nat.zero_le _⟩ ?_
    have e9 : fX2_canFollow p0 p1 = (fX4_within p1 48 57) := by
      simp only [fX2_canFollow, if_pos q1_0]
    exact W.zret hx hb hr (nar_z (zX4_within p1 48 57)) (fun t ht hW => ⟨_, rfl, e9.symm, ht⟩) (fun _ h9 => absurd h9 List.not_mem_nil) dX2_canFollow_36
  by_cases q1_1 : p0 = 45
  · refine lv_lookup (off := 36) (tgt := 37) hx hb dX2_canFollow_1 (by decide) (by rw [q1_1]; decide) (by decide) ?_
    refine lv_iload_n hx hb dX2_canFollow_37 rfl (lv_at hl 1 rfl) ?_
    refine lv_bipush (v := 49) hx hb dX2_canFollow_38 (by decide) ?_
    refine lv_bipush (v := 57) hx hb dX2_canFollow_40 (by decide) ?_
    refine rcNi (As := [.int p1, .int 49, .int 57]) (rest := []) hSF (kX4_within l D cI cZ cC p1 49 57) (va_cnB 3 hts gX2_canFollow_X4_within_n19 rfl rfl rfl (hN.1 (.methodLinkNest RX2 19 yX4_within "UmbrellaVote") (by decide +kernel)) (hts (.initialized RX4) (by decide +kernel)) (by decide +kernel) ⟨Nat.le_of_ble_eq_true rfl, Nat.le_of_ble_eq_true rfl⟩) (hts (.static yX4_within) (by decide +kernel)) (hP.sub [] rfl) hK hN rfl rfl hl.1 (Nat.le_of_ble_eq_true rfl) dX2_canFollow_42 ⟨Nat.zero_le _, Nat.zero_le _⟩ ?_
    have e9 : fX2_canFollow p0 p1 = (fX4_within p1 49 57) := by
      simp only [fX2_canFollow, if_neg q1_0, if_pos q1_1]
    exact W.zret hx hb hr (nar_z (zX4_within p1 49 57)) (fun t ht hW => ⟨_, rfl, e9.symm, ht⟩) (fun _ h9 => absurd h9 List.not_mem_nil) dX2_canFollow_45
  have nq1_0 : ¬ 33 = (p0).toInt := fun z9 => q1_0 (Int32.toInt_inj.mp (z9.symm.trans (by decide)))
  have nq1_1 : ¬ 45 = (p0).toInt := fun z9 => q1_1 (Int32.toInt_inj.mp (z9.symm.trans (by decide)))
  refine lv_lookup (off := 45) (tgt := 46) hx hb dX2_canFollow_1 (by decide) (by simp only [Op.lookupswitch.offset, List.find?]; simp [nq1_0, nq1_1]) (by decide) ?_
  refine lv_iload_n hx hb dX2_canFollow_46 rfl (lv_at hl 1 rfl) ?_
  refine lv_bipush (v := 65) hx hb dX2_canFollow_47 (by decide) ?_
  refine lv_bipush (v := 70) hx hb dX2_canFollow_49 (by decide) ?_
  refine rcNi (As := [.int p1, .int 65, .int 70]) (rest := []) hSF (kX4_within l D cI cZ cC p1 65 70) (va_cnB 3 hts gX2_canFollow_X4_within_n19 rfl rfl rfl (hN.1 (.methodLinkNest RX2 19 yX4_within "UmbrellaVote") (by decide +kernel)) (hts (.initialized RX4) (by decide +kernel)) (by decide +kernel) ⟨Nat.le_of_ble_eq_true rfl, Nat.le_of_ble_eq_true rfl⟩) (hts (.static yX4_within) (by decide +kernel)) (hP.sub [] rfl) hK hN rfl rfl hl.1 (Nat.le_of_ble_eq_true rfl) dX2_canFollow_51 ⟨Nat.zero_le _, Nat.zero_le _⟩ ?_
  have e9 : fX2_canFollow p0 p1 = (fX4_within p1 65 70) := by
    simp only [fX2_canFollow, if_neg q1_0, if_neg q1_1]
  exact W.zret hx hb hr (nar_z (zX4_within p1 65 70)) (fun t ht hW => ⟨_, rfl, e9.symm, ht⟩) (fun _ h9 => absurd h9 List.not_mem_nil) dX2_canFollow_54

set_option maxHeartbeats 4000000 in
set_option maxRecDepth 100000 in
theorem kX2_sign (l : Launch) (D : va_G) (cI cZ cC : ClassId) (hg : Nat) (ag : Nat → Nat) (og : OV) (p0 : Int32)  : Met l yX2_sign wsX2_sign ({ frames := 1, cells := 0, slots := 0, locals := 22 }) (pR D (tyv cI cZ cC) (wX2 cI hg ag og) [.ref hg, .int p0]) (vp_Si (fun r => r = fX2_sign og p0)) 0 0 (fun _ => False) := by
  refine Met.ofW (cc := cX2_sign) (maxL := 2) (ret := (some .int)) (by decide) rfl ?_
  intro p e s m args below meth c s₁ B hml hv
  obtain ⟨rfl, hP, hK, hN⟩ := hv
  have hx := B.exec
  have hb := B.bytes
  have hr := B.returns
  have hts := atoms_spec (ws := wsX2_sign) B.pre
  have hown : s.vm.findClass RX2 = some m.cls := findClass_of_methodNamed B.named
  have hlocks := B.notSynchronized
  have hP : va_P D vwCl (wX2 cI hg ag og) s.heap := hP
  have hl := lv_entry ([.ref hg, .int p0]) (n := 2) (Nat.le_of_ble_eq_true rfl)
  rw [lg_entry_eq]
  generalize (lg_sl ([.ref hg, .int p0]) ++ List.replicate (2 - (lg_sl ([.ref hg, .int p0])).length) Slot.unset).toArray = ls at hl ⊢
  have hl : lv_has ls 2 [(0, .ref hg), (1, .int p0)] := hl
  have hSF : CallFix p m c cX2_sign 2 s _ wsX2_sign RX2 := ⟨hx, hb, hml, hown, hts⟩
  have hi2 : ∀ w ∈ wsX20, w ∈ wsX2_sign := by decide +kernel
  have hf9 : (Cond.fieldLink RX2 9 "UmbrellaVote$Pad" "signs" "[I").before _ s = true := hts _ (by decide +kernel)
  refine lv_iload_n hx hb dX2_sign_0 rfl (lv_at hl 1 rfl) ?_
  refine lv_iconst (v := 0) hx hb dX2_sign_1 (by decide) ?_
  refine lv_bipush (v := 39) hx hb dX2_sign_2 (by decide) ?_
  refine rcNi (As := [.int p0, .int 0, .int 39]) (rest := []) hSF (kX4_within l D cI cZ cC p0 0 39) (va_cnB 3 hts gX2_sign_X4_within_n19 rfl rfl rfl (hN.1 (.methodLinkNest RX2 19 yX4_within "UmbrellaVote") (by decide +kernel)) (hts (.initialized RX4) (by decide +kernel)) (by decide +kernel) ⟨Nat.le_of_ble_eq_true rfl, Nat.le_of_ble_eq_true rfl⟩) (hts (.static yX4_within) (by decide +kernel)) (hP.sub [] rfl) hK hN rfl rfl hl.1 (Nat.le_of_ble_eq_true rfl) dX2_sign_4 ⟨Nat.zero_le _, Nat.zero_le _⟩ ?_
  refine W_itei (P := (fX4_within p0 0 39) = 0) (a := 0) (b := ((og.2 0) p0.toNatClampNeg)) (J := 20) (ls9 := ls) (rest9 := []) (fun ja2 jb2 => ?_) ?_
  · refine lv_if_eq (tgt := 19) hx hb dX2_sign_7 (by decide) (fun c1 => ?_) (fun c1 => ?_)
    · skip
      refine lv_iconst (v := 0) hx hb dX2_sign_19 (by decide) ?_
      exact ja2 c1
    · skip
      refine lv_aload_n hx hb dX2_sign_10 rfl (lv_at hl 0 rfl) ?_
      refine va_get (D := D) (ci := 2) (v := .ref (ag 0)) (C := RX2) (T := TX2) (N := 2) hx hb hts hi2 hown hK hP 0 rfl rfl 0 (by decide) hf9 (fun _ h9 => h9) rfl dX2_sign_11 ?_
      refine lv_iload_n hx hb dX2_sign_14 rfl (lv_at hl 1 rfl) ?_
      refine va_iald (f := (og.2 0)) hx hb hK hP 1 0 rfl rfl (wi40 (by with_reducible assumption)) dX2_sign_15 ?_
      refine lv_goto (tgt := 20) hx hb dX2_sign_16 (by decide) ?_
      exact jb2 c1
  have e9 : fX2_sign og p0 = (if (fX4_within p0 0 39) = 0 then (0 : Int32) else ((og.2 0) p0.toNatClampNeg)) := by
    rfl
  exact W.iret hx hb hr (fun t ht hW => ⟨_, rfl, e9.symm, ht⟩) (fun _ h9 => absurd h9 List.not_mem_nil) dX2_sign_20

set_option maxHeartbeats 4000000 in
set_option maxRecDepth 100000 in
theorem kX2_write (l : Launch) (D : va_G) (cI cZ cC : ClassId) (hg : Nat) (ag : Nat → Nat) (og : OV) (p0 : Int32)  {sz : Nat} : Met l yX2_write wsX2_write ({ frames := 1, cells := 0, slots := 0, locals := 22 }) (pW D (tyv cI cZ cC) (wX2 cI hg ag og) sz [.ref hg, .int p0]) (va_Qi (fun r (u : OV) => r = (fX2_write og p0).1 ∧ u = (fX2_write og p0).2) (qW D (fun (u : OV) => wX2 cI hg ag u) (va_A (wX2 cI hg ag og) sz)) (va_A (wX2 cI hg ag og) sz)) 0 0 (va_A (wX2 cI hg ag og) sz) := by
  refine Met.ofW (cc := cX2_write) (maxL := 2) (ret := (some .boolean)) (by decide) rfl ?_
  intro p e s m args below meth c s₁ B hml hv
  obtain ⟨rfl, hsz, hP, hK, hN, hD0⟩ := hv
  have hx := B.exec
  have hb := B.bytes
  have hr := B.returns
  have hts := atoms_spec (ws := wsX2_write) B.pre
  have hown : s.vm.findClass RX2 = some m.cls := findClass_of_methodNamed B.named
  have hlocks := B.notSynchronized
  subst hsz
  have hD := hD0.self (sz := s.heap.size)
  generalize hAe : va_A (wX2 cI hg ag og) s.heap.size = A at hD ⊢
  have hA : ∀ q : Nat, s.heap.size ≤ q → A q := fun q h => by rw [← hAe]; exact Or.inr h
  have hS : va_S A s.heap s.heap [] := va_S.rf
  have hP : va_P D vwCl (wX2 cI hg ag og) s.heap := hP
  have hl := lv_entry ([.ref hg, .int p0]) (n := 2) (Nat.le_of_ble_eq_true rfl)
  rw [lg_entry_eq]
  generalize (lg_sl ([.ref hg, .int p0]) ++ List.replicate (2 - (lg_sl ([.ref hg, .int p0])).length) Slot.unset).toArray = ls at hl ⊢
  have hl : lv_has ls 2 [(0, .ref hg), (1, .int p0)] := hl
  have hSF : CallFix p m c cX2_write 2 s _ wsX2_write RX2 := ⟨hx, hb, hml, hown, hts⟩
  have hi2 : ∀ w ∈ wsX20, w ∈ wsX2_write := by decide +kernel
  have hf15 : (Cond.fieldLink RX2 15 "UmbrellaVote$Pad" "count" "I").before _ s = true := hts _ (by decide +kernel)
  have hf9 : (Cond.fieldLink RX2 9 "UmbrellaVote$Pad" "signs" "[I").before _ s = true := hts _ (by decide +kernel)
  refine lv_aload_n hx hb dX2_write_0 rfl (lv_at hl 0 rfl) ?_
  refine va_get (D := D) (ci := 2) (v := .int (og.1 1)) (C := RX2) (T := TX2) (N := 2) hx hb hts hi2 hown hK hP 0 rfl rfl 1 (by decide) hf15 (fun _ h9 => h9) rfl dX2_write_1 ?_
  refine lv_iconst (v := 0) hx hb dX2_write_4 (by decide) ?_
  refine lv_bipush (v := 39) hx hb dX2_write_5 (by decide) ?_
  refine rcNi (As := [.int (og.1 1), .int 0, .int 39]) (rest := []) hSF (kX4_within l D cI cZ cC (og.1 1) 0 39) (va_cnB 3 hts gX2_write_X4_within_n19 rfl rfl rfl (hN.1 (.methodLinkNest RX2 19 yX4_within "UmbrellaVote") (by decide +kernel)) (hts (.initialized RX4) (by decide +kernel)) (by decide +kernel) ⟨Nat.le_of_ble_eq_true rfl, Nat.le_of_ble_eq_true rfl⟩) (hts (.static yX4_within) (by decide +kernel)) (hP.sub [] rfl) hK hN rfl rfl hl.1 (Nat.le_of_ble_eq_true rfl) dX2_write_7 ⟨Nat.zero_le _, Nat.zero_le _⟩ ?_
  refine lv_if_ne (tgt := 15) hx hb dX2_write_10 (by decide) (fun c1 => ?_) (fun c1 => ?_)
  · skip
    refine lv_aload_n hx hb dX2_write_15 rfl (lv_at hl 0 rfl) ?_
    refine va_get (D := D) (ci := 2) (v := .ref (ag 0)) (C := RX2) (T := TX2) (N := 2) hx hb hts hi2 hown hK hP 0 rfl rfl 0 (by decide) hf9 (fun _ h9 => h9) rfl dX2_write_16 ?_
    refine lv_aload_n hx hb dX2_write_19 rfl (lv_at hl 0 rfl) ?_
    refine va_get (D := D) (ci := 2) (v := .int (og.1 1)) (C := RX2) (T := TX2) (N := 2) hx hb hts hi2 hown hK hP 0 rfl rfl 1 (by decide) hf15 (fun _ h9 => h9) rfl dX2_write_20 ?_
    refine lv_iload_n hx hb dX2_write_23 rfl (lv_at hl 1 rfl) ?_
    refine va_iast hx hb hK hP hD hS 1 0 rfl rfl (wi40 (by with_reducible assumption)) dX2_write_24 (fun H locs hP hD hS => ?_)
    have hP : va_P D vwCl (wX2 cI hg ag (ua og 0 (og.1 1).toNatClampNeg p0)) H := hP
    have hD : va_D A (wX2 cI hg ag (ua og 0 (og.1 1).toNatClampNeg p0)) := hD
    refine lv_aload_n hx hb dX2_write_25 rfl (lv_at hl 0 rfl) ?_
    refine lv_dup hx hb dX2_write_26 rfl ?_
    refine va_get (D := D) (ci := 2) (v := .int (og.1 1)) (C := RX2) (T := TX2) (N := 2) hx hb hts hi2 hown hK hP 0 rfl rfl 1 (by decide) hf15 (fun _ h9 => h9) rfl dX2_write_27 ?_
    refine lv_iconst (v := 1) hx hb dX2_write_30 (by decide) ?_
    refine lv_iadd hx hb dX2_write_31 ?_
    refine va_put (D := D) (ci := 2) (v := .int ((og.1 1) + 1)) (ty := .int) (C := RX2) (T := TX2) (N := 2) hx hb hts hi2 tyX2 tyX2_ok nmX2 hown hK hP hD hS 0 rfl rfl 1 (by decide) hf15 (fun _ h9 => h9) rfl (by decide +kernel) rfl rfl (Nat.le_of_ble_eq_true rfl) dX2_write_32 (fun H locs hP hD hS => ?_)
    rw [sw_g_g_s1] at hP hD
    have hP : va_P D vwCl (wX2 cI hg ag (us (ua og 0 (og.1 1).toNatClampNeg p0) 1 ((og.1 1) + 1))) H := hP
    have hD : va_D A (wX2 cI hg ag (us (ua og 0 (og.1 1).toNatClampNeg p0) 1 ((og.1 1) + 1))) := hD
    refine lv_iconst (v := 1) hx hb dX2_write_35 (by decide) ?_
    have e9 : fX2_write og p0 = ((1 : Int32), (us (ua og 0 (og.1 1).toNatClampNeg p0) 1 ((og.1 1) + 1))) := by
      simp only [fX2_write, if_neg c1]
    exact W.zret hx hb hr (nar_z (Or.inr rfl)) (fun t ht hW => ⟨⟨_, (us (ua og 0 (og.1 1).toNatClampNeg p0) 1 ((og.1 1) + 1)), rfl, ⟨by rw [e9], by rw [e9]⟩, ⟨by rw [ht]; exact hP, hD⟩⟩, hS.F ht⟩) hS.2.2 dX2_write_36
  · skip
    refine lv_iconst (v := 0) hx hb dX2_write_13 (by decide) ?_
    have e9 : fX2_write og p0 = ((0 : Int32), og) := by
      simp only [fX2_write, if_pos c1]
    exact W.zret hx hb hr (nar_z (Or.inl rfl)) (fun t ht hW => ⟨⟨_, og, rfl, ⟨by rw [e9], by rw [e9]⟩, ⟨by rw [ht]; exact hP, hD⟩⟩, hS.F ht⟩) hS.2.2 dX2_write_14

set_option maxHeartbeats 4000000 in
set_option maxRecDepth 100000 in
theorem kX2_firstFault (l : Launch) (D : va_G) (cI cZ cC : ClassId) (hg : Nat) (ag : Nat → Nat) (og : OV)  (hn : (og.1 1).toNatClampNeg ≤ 40 ∧ og.1 1 = nI (og.1 1).toNatClampNeg) : Met l yX2_firstFault wsX2_firstFault ({ frames := 2, cells := 0, slots := 0, locals := 43 }) (pR D (tyv cI cZ cC) (wX2 cI hg ag og) [.ref hg]) (vp_Si (fun r => r = fX2_firstFault og)) 0 0 (fun _ => False) := by
  refine Met.ofW (cc := cX2_firstFault) (maxL := 5) (ret := (some .int)) (by decide) rfl ?_
  intro p e s m args below meth c s₁ B hml hv
  obtain ⟨rfl, hP, hK, hN⟩ := hv
  have hx := B.exec
  have hb := B.bytes
  have hr := B.returns
  have hts := atoms_spec (ws := wsX2_firstFault) B.pre
  have hown : s.vm.findClass RX2 = some m.cls := findClass_of_methodNamed B.named
  have hlocks := B.notSynchronized
  have hP : va_P D vwCl (wX2 cI hg ag og) s.heap := hP
  have hl := lv_entry ([.ref hg]) (n := 5) (Nat.le_of_ble_eq_true rfl)
  rw [lg_entry_eq]
  generalize (lg_sl ([.ref hg]) ++ List.replicate (5 - (lg_sl ([.ref hg])).length) Slot.unset).toArray = ls at hl ⊢
  have hl : lv_has ls 5 [(0, .ref hg)] := hl
  have hSF : CallFix p m c cX2_firstFault 5 s _ wsX2_firstFault RX2 := ⟨hx, hb, hml, hown, hts⟩
  have hi2 : ∀ w ∈ wsX20, w ∈ wsX2_firstFault := by decide +kernel
  have hf15 : (Cond.fieldLink RX2 15 "UmbrellaVote$Pad" "count" "I").before _ s = true := hts _ (by decide +kernel)
  refine lv_iconst (v := 0) hx hb dX2_firstFault_0 (by decide) ?_
  refine lv_istore_n (lv' := [(1, .int 0), (0, .ref hg)]) hx hb dX2_firstFault_1 rfl hl (by decide) rfl (fun ls hl => ?_)
  refine lv_iconst (v := 0) hx hb dX2_firstFault_2 (by decide) ?_
  refine lv_istore_n (lv' := [(2, .int 0), (1, .int 0), (0, .ref hg)]) hx hb dX2_firstFault_3 rfl hl (by decide) rfl (fun ls hl => ?_)
  refine W_ltR (σ := Int32) ((og.1 1).toNatClampNeg) (fun r9 k9 x9 ls9 => lv_has ls9 5 [(2, .int (nI k9)), (1, .int x9), (0, .ref hg)] ∧ fX2_firstFault_L4 og r9 k9 x9 = fX2_firstFault_L4 og ((og.1 1).toNatClampNeg) 0 0) 0 ⟨lv_sub hl [0, 1, 2] rfl, rfl⟩ ?_ ?_
  · intro r1 k1 y1 ls hr1 hI9 ih1
    obtain ⟨hl, hG1⟩ := hI9
    obtain ⟨x1_1, en1⟩ : ∃ z, z = y1 := ⟨_, rfl⟩
    subst en1
    have hG1 : fX2_firstFault_L4 og (r1 + 1) k1 x1_1 = fX2_firstFault_L4 og ((og.1 1).toNatClampNeg) 0 0 := hG1
    have hl : lv_has ls 5 [(2, .int (nI k1)), (1, .int x1_1), (0, .ref hg)] := hl
    have hk1 : k1 < (og.1 1).toNatClampNeg := by omega
    refine lv_iload_n hx hb dX2_firstFault_4 rfl (lv_at hl 0 rfl) ?_
    refine lv_aload_n hx hb dX2_firstFault_5 rfl (lv_at hl 2 rfl) ?_
    refine va_get (D := D) (ci := 2) (v := .int (og.1 1)) (C := RX2) (T := TX2) (N := 2) hx hb hts hi2 hown hK hP 0 rfl rfl 1 (by decide) hf15 (fun _ h9 => h9) rfl dX2_firstFault_6 ?_
    refine lv_icmp_ge (tgt := 66) hx hb dX2_firstFault_9 (by decide) (fun c2 => absurd c2 (bnd_nle hn.2 hk1 (Nat.lt_of_le_of_lt hn.1 (by decide)))) (fun c2 => ?_)
    refine lv_aload_n hx hb dX2_firstFault_12 rfl (lv_at hl 2 rfl) ?_
    refine lv_iload_n hx hb dX2_firstFault_13 rfl (lv_at hl 0 rfl) ?_
    refine rcVi (b := hg) (As := [.int (nI k1)]) (rest := []) hSF (kX2_sign l D cI cZ cC hg ag og (nI k1)) (cwV 1 hts gX2_firstFault_X2_sign rfl rfl rfl (by decide +kernel) ⟨Nat.le_of_ble_eq_true rfl, Nat.le_of_ble_eq_true rfl⟩) (va_recv hK hP (ci := 2) (q0 := 0) rfl rfl) (hP.sub [0, 1] rfl) hK hN rfl rfl hl.1 (Nat.le_of_ble_eq_true rfl) dX2_firstFault_14 ⟨Nat.zero_le _, Nat.zero_le _⟩ ?_
    refine lv_istore_n (lv' := [(3, .int (fX2_sign og (nI k1))), (2, .int (nI k1)), (1, .int x1_1), (0, .ref hg)]) hx hb dX2_firstFault_17 rfl hl (by decide) rfl (fun ls hl => ?_)
    refine lv_iload_n hx hb dX2_firstFault_18 rfl (lv_at hl 2 rfl) ?_
    refine W_itei (P := x1_1 = 0) (a := (fX2_canBegin (fX2_sign og (nI k1)))) (b := (fX2_canFollow x1_1 (fX2_sign og (nI k1)))) (J := 34) (ls9 := ls) (rest9 := []) (fun ja4 jb4 => ?_) ?_
    · refine lv_if_ne (tgt := 29) hx hb dX2_firstFault_19 (by decide) (fun c3 => ?_) (fun c3 => ?_)
      · skip
        refine lv_iload_n hx hb dX2_firstFault_29 rfl (lv_at hl 2 rfl) ?_
        refine lv_iload_n hx hb dX2_firstFault_30 rfl (lv_at hl 0 rfl) ?_
        refine rcSi (As := [.int x1_1, .int (fX2_sign og (nI k1))]) (rest := []) hSF (kX2_canFollow l D cI cZ cC x1_1 (fX2_sign og (nI k1))) (va_cwS 2 hts gX2_firstFault_X2_canFollow rfl rfl rfl (by decide +kernel) ⟨Nat.le_of_ble_eq_true rfl, Nat.le_of_ble_eq_true rfl⟩) (hP.sub [] rfl) hK hN rfl rfl hl.1 (Nat.le_of_ble_eq_true rfl) dX2_firstFault_31 ⟨Nat.zero_le _, Nat.zero_le _⟩ ?_
        exact jb4 c3
      · skip
        refine lv_iload_n hx hb dX2_firstFault_22 rfl (lv_at hl 0 rfl) ?_
        refine rcSi (As := [.int (fX2_sign og (nI k1))]) (rest := []) hSF (kX2_canBegin l D cI cZ cC (fX2_sign og (nI k1))) (va_cwS 1 hts gX2_firstFault_X2_canBegin rfl rfl rfl (by decide +kernel) ⟨Nat.le_of_ble_eq_true rfl, Nat.le_of_ble_eq_true rfl⟩) (hP.sub [] rfl) hK hN rfl rfl hl.1 (Nat.le_of_ble_eq_true rfl) dX2_firstFault_23 ⟨Nat.zero_le _, Nat.zero_le _⟩ ?_
        refine lv_goto (tgt := 34) hx hb dX2_firstFault_26 (by decide) ?_
        exact ja4 c3
    refine lv_topi (fun x5 ex5 => ?_)
    refine lv_istore (lv' := [(4, .int x5), (3, .int (fX2_sign og (nI k1))), (2, .int (nI k1)), (1, .int x1_1), (0, .ref hg)]) hx hb dX2_firstFault_34 hl (by decide) rfl (fun ls hl => ?_)
    refine lv_iload hx hb dX2_firstFault_36 (lv_at hl 0 rfl) ?_
    refine lv_if_ne (tgt := 43) hx hb dX2_firstFault_38 (by decide) (fun c6 => ?_) (fun c6 => ?_)
    · skip
      refine lv_iload_n hx hb dX2_firstFault_43 rfl (lv_at hl 3 rfl) ?_
      refine W_itei (P := x1_1 = 0) (a := (if (fX2_takesAnother (fX2_sign og (nI k1))) = 0 then (0 : Int32) else (fX2_sign og (nI k1)))) (b := 0) (J := 59) (ls9 := ls) (rest9 := []) (fun ja8 jb8 => ?_) ?_
      · refine lv_if_ne (tgt := 58) hx hb dX2_firstFault_44 (by decide) (fun c7 => ?_) (fun c7 => ?_)
        · skip
          refine lv_iconst (v := 0) hx hb dX2_firstFault_58 (by decide) ?_
          exact jb8 c7
        · skip
          refine lv_iload_n hx hb dX2_firstFault_47 rfl (lv_at hl 1 rfl) ?_
          refine rcSi (As := [.int (fX2_sign og (nI k1))]) (rest := []) hSF (kX2_takesAnother l D cI cZ cC (fX2_sign og (nI k1))) (va_cwS 1 hts gX2_firstFault_X2_takesAnother rfl rfl rfl (by decide +kernel) ⟨Nat.le_of_ble_eq_true rfl, Nat.le_of_ble_eq_true rfl⟩) (hP.sub [] rfl) hK hN rfl rfl hl.1 (Nat.le_of_ble_eq_true rfl) dX2_firstFault_48 ⟨Nat.zero_le _, Nat.zero_le _⟩ ?_
          refine W_itei (P := (fX2_takesAnother (fX2_sign og (nI k1))) = 0) (a := 0) (b := (fX2_sign og (nI k1))) (J := 59) (ls9 := ls) (rest9 := []) (fun ja10 jb10 => ?_) ?_
          · refine lv_if_eq (tgt := 58) hx hb dX2_firstFault_51 (by decide) (fun c9 => ?_) (fun c9 => ?_)
            · skip
              refine lv_iconst (v := 0) hx hb dX2_firstFault_58 (by decide) ?_
              exact ja10 c9
            · skip
              refine lv_iload_n hx hb dX2_firstFault_54 rfl (lv_at hl 1 rfl) ?_
              refine lv_goto (tgt := 59) hx hb dX2_firstFault_55 (by decide) ?_
              exact jb10 c9
          exact ja8 c7
      refine lv_topi (fun x11 ex11 => ?_)
      refine lv_istore_n (lv' := [(1, .int x11), (4, .int x5), (3, .int (fX2_sign og (nI k1))), (2, .int (nI k1)), (0, .ref hg)]) hx hb dX2_firstFault_59 rfl hl (by decide) rfl (fun ls hl => ?_)
      refine lv_iinc (v := ((nI k1) + 1)) (lv' := [(2, .int ((nI k1) + 1)), (1, .int x11), (4, .int x5), (3, .int (fX2_sign og (nI k1))), (0, .ref hg)]) hx hb dX2_firstFault_60 hl (k := 3) rfl rfl (by decide) rfl (fun ls hl => ?_)
      refine lv_goto (tgt := 4) hx hb dX2_firstFault_63 (by decide) ?_
      have hl9 : lv_has ls 5 [(2, .int (nI (k1 + 1))), (1, .int x11), (0, .ref hg)] := by
        rw [nI_succ]; exact lv_sub hl [0, 1, 4] rfl
      have e8 : fX2_firstFault_L4 og r1 (k1 + 1) x11 = fX2_firstFault_L4 og ((og.1 1).toNatClampNeg) 0 0 := by
        rw [← hG1]
        subst ex11
        subst ex5
        simp only [fX2_firstFault_L4, if_neg c6]
      exact ih1 x11 ls ⟨hl9, e8⟩
    · skip
      refine lv_iload_n hx hb dX2_firstFault_41 rfl (lv_at hl 2 rfl) ?_
      have e9 : fX2_firstFault og = (nI k1) := by
        subst ex5
        refine Eq.trans (b := fX2_firstFault_L4 og ((og.1 1).toNatClampNeg) 0 0) ?_ ?_
        · rfl
        · rw [← hG1]; simp only [fX2_firstFault_L4, if_pos c6]
      exact W.iret hx hb hr (fun t ht hW => ⟨_, rfl, e9.symm, ht⟩) (fun _ h9 => absurd h9 List.not_mem_nil) dX2_firstFault_42
  intro k1 y1 ls hB1 hI9
  obtain ⟨hl, hG1⟩ := hI9
  obtain ⟨x1_1, en1⟩ : ∃ z, z = y1 := ⟨_, rfl⟩
  subst en1
  have hG1 : fX2_firstFault_L4 og 0 k1 x1_1 = fX2_firstFault_L4 og ((og.1 1).toNatClampNeg) 0 0 := hG1
  have hl : lv_has ls 5 [(2, .int (nI k1)), (1, .int x1_1), (0, .ref hg)] := hl
  refine lv_iload_n hx hb dX2_firstFault_4 rfl (lv_at hl 0 rfl) ?_
  refine lv_aload_n hx hb dX2_firstFault_5 rfl (lv_at hl 2 rfl) ?_
  refine va_get (D := D) (ci := 2) (v := .int (og.1 1)) (C := RX2) (T := TX2) (N := 2) hx hb hts hi2 hown hK hP 0 rfl rfl 1 (by decide) hf15 (fun _ h9 => h9) rfl dX2_firstFault_6 ?_
  refine lv_icmp_ge (tgt := 66) hx hb dX2_firstFault_9 (by decide) (fun c12 => ?_) (fun c12 => absurd (by rw [hB1]; exact bnd_le hn.2) c12)
  refine lv_iload_n hx hb dX2_firstFault_66 rfl (lv_at hl 1 rfl) ?_
  refine W_itei (P := x1_1 = 0) (a := (-6)) (b := (og.1 1)) (J := 79) (ls9 := ls) (rest9 := []) (fun ja14 jb14 => ?_) ?_
  · refine lv_if_ne (tgt := 75) hx hb dX2_firstFault_67 (by decide) (fun c13 => ?_) (fun c13 => ?_)
    · skip
      refine lv_aload_n hx hb dX2_firstFault_75 rfl (lv_at hl 2 rfl) ?_
      refine va_get (D := D) (ci := 2) (v := .int (og.1 1)) (C := RX2) (T := TX2) (N := 2) hx hb hts hi2 hown hK hP 0 rfl rfl 1 (by decide) hf15 (fun _ h9 => h9) rfl dX2_firstFault_76 ?_
      exact jb14 c13
    · skip
      refine lv_bipush (v := (-6)) hx hb dX2_firstFault_70 (by decide) ?_
      refine lv_goto (tgt := 79) hx hb dX2_firstFault_72 (by decide) ?_
      exact ja14 c13
  have e9 : fX2_firstFault og = (if x1_1 = 0 then ((-6) : Int32) else (og.1 1)) := by
    refine Eq.trans (b := fX2_firstFault_L4 og ((og.1 1).toNatClampNeg) 0 0) ?_ ?_
    · rfl
    · rw [← hG1]; rfl
  exact W.iret hx hb hr (fun t ht hW => ⟨_, rfl, e9.symm, ht⟩) (fun _ h9 => absurd h9 List.not_mem_nil) dX2_firstFault_79

set_option maxHeartbeats 4000000 in
set_option maxRecDepth 100000 in
theorem kX2_parts (l : Launch) (D : va_G) (cI cZ cC : ClassId) (hg : Nat) (ag : Nat → Nat) (og : OV)  (hn : (og.1 1).toNatClampNeg ≤ 40 ∧ og.1 1 = nI (og.1 1).toNatClampNeg) : Met l yX2_parts wsX2_parts ({ frames := 2, cells := 0, slots := 0, locals := 43 }) (pR D (tyv cI cZ cC) (wX2 cI hg ag og) [.ref hg]) (vp_Si (fun r => r = fX2_parts og)) 0 0 (fun _ => False) := by
  refine Met.ofW (cc := cX2_parts) (maxL := 3) (ret := (some .int)) (by decide) rfl ?_
  intro p e s m args below meth c s₁ B hml hv
  obtain ⟨rfl, hP, hK, hN⟩ := hv
  have hx := B.exec
  have hb := B.bytes
  have hr := B.returns
  have hts := atoms_spec (ws := wsX2_parts) B.pre
  have hown : s.vm.findClass RX2 = some m.cls := findClass_of_methodNamed B.named
  have hlocks := B.notSynchronized
  have hP : va_P D vwCl (wX2 cI hg ag og) s.heap := hP
  have hl := lv_entry ([.ref hg]) (n := 3) (Nat.le_of_ble_eq_true rfl)
  rw [lg_entry_eq]
  generalize (lg_sl ([.ref hg]) ++ List.replicate (3 - (lg_sl ([.ref hg])).length) Slot.unset).toArray = ls at hl ⊢
  have hl : lv_has ls 3 [(0, .ref hg)] := hl
  have hSF : CallFix p m c cX2_parts 3 s _ wsX2_parts RX2 := ⟨hx, hb, hml, hown, hts⟩
  have hi2 : ∀ w ∈ wsX20, w ∈ wsX2_parts := by decide +kernel
  have hf15 : (Cond.fieldLink RX2 15 "UmbrellaVote$Pad" "count" "I").before _ s = true := hts _ (by decide +kernel)
  refine lv_iconst (v := 0) hx hb dX2_parts_0 (by decide) ?_
  refine lv_istore_n (lv' := [(1, .int 0), (0, .ref hg)]) hx hb dX2_parts_1 rfl hl (by decide) rfl (fun ls hl => ?_)
  refine lv_iconst (v := 0) hx hb dX2_parts_2 (by decide) ?_
  refine lv_istore_n (lv' := [(2, .int 0), (1, .int 0), (0, .ref hg)]) hx hb dX2_parts_3 rfl hl (by decide) rfl (fun ls hl => ?_)
  refine W_lpR ((og.1 1).toNatClampNeg) (fun k9 ls9 => lv_has ls9 3 [(2, .int (nI k9)), (1, .int (fX2_parts_L4 og 0 k9)), (0, .ref hg)]) (lv_sub hl [0, 1, 2] rfl) ?_ ?_
  · intro k1 ls hk1 hl ih1
    generalize hs1 : fX2_parts_L4 og 0 k1 = y1 at hl
    obtain ⟨x1_1, en1⟩ : ∃ z, z = y1 := ⟨_, rfl⟩
    subst en1
    refine lv_iload_n hx hb dX2_parts_4 rfl (lv_at hl 0 rfl) ?_
    refine lv_aload_n hx hb dX2_parts_5 rfl (lv_at hl 2 rfl) ?_
    refine va_get (D := D) (ci := 2) (v := .int (og.1 1)) (C := RX2) (T := TX2) (N := 2) hx hb hts hi2 hown hK hP 0 rfl rfl 1 (by decide) hf15 (fun _ h9 => h9) rfl dX2_parts_6 ?_
    refine lv_icmp_ge (tgt := 32) hx hb dX2_parts_9 (by decide) (fun c2 => absurd c2 (bnd_nle hn.2 hk1 (Nat.lt_of_le_of_lt hn.1 (by decide)))) (fun c2 => ?_)
    refine lv_aload_n hx hb dX2_parts_12 rfl (lv_at hl 2 rfl) ?_
    refine lv_iload_n hx hb dX2_parts_13 rfl (lv_at hl 0 rfl) ?_
    refine rcVi (b := hg) (As := [.int (nI k1)]) (rest := []) hSF (kX2_sign l D cI cZ cC hg ag og (nI k1)) (cwV 1 hts gX2_parts_X2_sign rfl rfl rfl (by decide +kernel) ⟨Nat.le_of_ble_eq_true rfl, Nat.le_of_ble_eq_true rfl⟩) (va_recv hK hP (ci := 2) (q0 := 0) rfl rfl) (hP.sub [0, 1] rfl) hK hN rfl rfl hl.1 (Nat.le_of_ble_eq_true rfl) dX2_parts_14 ⟨Nat.zero_le _, Nat.zero_le _⟩ ?_
    refine rcSi (As := [.int (fX2_sign og (nI k1))]) (rest := []) hSF (kX2_takesAnother l D cI cZ cC (fX2_sign og (nI k1))) (va_cwS 1 hts gX2_parts_X2_takesAnother rfl rfl rfl (by decide +kernel) ⟨Nat.le_of_ble_eq_true rfl, Nat.le_of_ble_eq_true rfl⟩) (hP.sub [] rfl) hK hN rfl rfl hl.1 (Nat.le_of_ble_eq_true rfl) dX2_parts_17 ⟨Nat.zero_le _, Nat.zero_le _⟩ ?_
    refine lv_if_ne (tgt := 26) hx hb dX2_parts_20 (by decide) (fun c3 => ?_) (fun c3 => ?_)
    · skip
      refine lv_iinc (v := ((nI k1) + 1)) (lv' := [(2, .int ((nI k1) + 1)), (1, .int x1_1), (0, .ref hg)]) hx hb dX2_parts_26 hl (k := 0) rfl rfl (by decide) rfl (fun ls hl => ?_)
      refine lv_goto (tgt := 4) hx hb dX2_parts_29 (by decide) ?_
      have e8 : fX2_parts_L4s og k1 x1_1 = x1_1 := by
        simp only [fX2_parts_L4s, if_neg c3]
      have e7 : fX2_parts_L4 og 0 (k1 + 1) = x1_1 := by
        show fX2_parts_L4s og k1 (fX2_parts_L4 og 0 k1) = _
        rw [hs1]; exact e8
      have hl9 : lv_has ls 3 [(2, .int (nI (k1 + 1))), (1, .int (fX2_parts_L4 og 0 (k1 + 1))), (0, .ref hg)] := by
        rw [nI_succ, e7]; exact lv_sub hl [0, 1, 2] rfl
      exact ih1 ls hl9
    · skip
      refine lv_iinc (v := (x1_1 + 1)) (lv' := [(1, .int (x1_1 + 1)), (2, .int (nI k1)), (0, .ref hg)]) hx hb dX2_parts_23 hl (k := 1) rfl rfl (by decide) rfl (fun ls hl => ?_)
      refine lv_iinc (v := ((nI k1) + 1)) (lv' := [(2, .int ((nI k1) + 1)), (1, .int (x1_1 + 1)), (0, .ref hg)]) hx hb dX2_parts_26 hl (k := 1) rfl rfl (by decide) rfl (fun ls hl => ?_)
      refine lv_goto (tgt := 4) hx hb dX2_parts_29 (by decide) ?_
      have e8 : fX2_parts_L4s og k1 x1_1 = (x1_1 + 1) := by
        simp only [fX2_parts_L4s, if_pos c3]
      have e7 : fX2_parts_L4 og 0 (k1 + 1) = (x1_1 + 1) := by
        show fX2_parts_L4s og k1 (fX2_parts_L4 og 0 k1) = _
        rw [hs1]; exact e8
      have hl9 : lv_has ls 3 [(2, .int (nI (k1 + 1))), (1, .int (fX2_parts_L4 og 0 (k1 + 1))), (0, .ref hg)] := by
        rw [nI_succ, e7]; exact lv_sub hl [0, 1, 2] rfl
      exact ih1 ls hl9
  intro ls hl
  refine lv_iload_n hx hb dX2_parts_4 rfl (lv_at hl 0 rfl) ?_
  refine lv_aload_n hx hb dX2_parts_5 rfl (lv_at hl 2 rfl) ?_
  refine va_get (D := D) (ci := 2) (v := .int (og.1 1)) (C := RX2) (T := TX2) (N := 2) hx hb hts hi2 hown hK hP 0 rfl rfl 1 (by decide) hf15 (fun _ h9 => h9) rfl dX2_parts_6 ?_
  refine lv_icmp_ge (tgt := 32) hx hb dX2_parts_9 (by decide) (fun c4 => ?_) (fun c4 => absurd (bnd_le hn.2) c4)
  refine lv_iload_n hx hb dX2_parts_32 rfl (lv_at hl 1 rfl) ?_
  have e9 : fX2_parts og = (fX2_parts_L4 og 0 ((og.1 1).toNatClampNeg)) := by
    rfl
  exact W.iret hx hb hr (fun t ht hW => ⟨_, rfl, e9.symm, ht⟩) (fun _ h9 => absurd h9 List.not_mem_nil) dX2_parts_33

