set_option maxHeartbeats 4000000 in
set_option maxRecDepth 100000 in
theorem kX5_rule (l : Launch) (D : va_G) (cI cZ cC : ClassId) (hm : Nat) (am : Nat → Nat) (om : OV) (p0 : Int32)  {sz : Nat} : Met l yX5_rule wsX5_rule ({ frames := 0, cells := 0, slots := 0, locals := 0 }) (pW D (tyv cI cZ cC) (wX5 cI cZ hm am om) sz [.ref hm, .int p0]) (va_Qv (fun (u : OV) => u = fX5_rule om p0) (qW D (fun (u : OV) => wX5 cI cZ hm am u) (va_A (wX5 cI cZ hm am om) sz)) (va_A (wX5 cI cZ hm am om) sz)) 0 0 (va_A (wX5 cI cZ hm am om) sz) := by
  refine Met.ofW (cc := cX5_rule) (maxL := 2) (ret := none) (by decide) rfl ?_
  intro p e s m args below meth c s₁ B hml hv
  obtain ⟨rfl, hsz, hP, hK, hN, hD0⟩ := hv
  have hx := B.exec
  have hb := B.bytes
  have hr := B.returns
  have hts := atoms_spec (ws := wsX5_rule) B.pre
  have hown : s.vm.findClass RX5 = some m.cls := findClass_of_methodNamed B.named
  have hlocks := B.notSynchronized
  subst hsz
  have hD := hD0.self (sz := s.heap.size)
  generalize hAe : va_A (wX5 cI cZ hm am om) s.heap.size = A at hD ⊢
  have hA : ∀ q : Nat, s.heap.size ≤ q → A q := fun q h => by rw [← hAe]; exact Or.inr h
  have hS : va_S A s.heap s.heap [] := va_S.rf
  have hP : va_P D vwCl (wX5 cI cZ hm am om) s.heap := hP
  have hl := lv_entry ([.ref hm, .int p0]) (n := 2) (Nat.le_of_ble_eq_true rfl)
  rw [lg_entry_eq]
  generalize (lg_sl ([.ref hm, .int p0]) ++ List.replicate (2 - (lg_sl ([.ref hm, .int p0])).length) Slot.unset).toArray = ls at hl ⊢
  have hl : lv_has ls 2 [(0, .ref hm), (1, .int p0)] := hl
  have hSF : CallFix p m c cX5_rule 2 s _ wsX5_rule RX5 := ⟨hx, hb, hml, hown, hts⟩
  have hi5 : ∀ w ∈ wsX50, w ∈ wsX5_rule := by decide +kernel
  have hf114 : (Cond.fieldLink RX5 114 "UmbrellaVoteModel" "reigns" "I").before _ s = true := hts _ (by decide +kernel)
  have hf117 : (Cond.fieldLink RX5 117 "UmbrellaVoteModel" "ruling" "I").before _ s = true := hts _ (by decide +kernel)
  refine lv_aload_n hx hb dX5_rule_0 rfl (lv_at hl 0 rfl) ?_
  refine lv_dup hx hb dX5_rule_1 rfl ?_
  refine va_get (D := D) (ci := 5) (v := .int (om.1 15)) (C := RX5) (T := TX5) (N := 24) hx hb hts hi5 hown hK hP 0 rfl rfl 15 (by decide) hf114 (fun _ h9 => h9) rfl dX5_rule_2 ?_
  refine lv_iload_n hx hb dX5_rule_5 rfl (lv_at hl 1 rfl) ?_
  refine W_itei (P := p0 = 0) (a := 0) (b := (if p0 = (om.1 16) then (0 : Int32) else 1)) (J := 22) (ls9 := ls) (rest9 := [.int (om.1 15), .ref hm]) (fun ja2 jb2 => ?_) ?_
  · refine lv_if_eq (tgt := 21) hx hb dX5_rule_6 (by decide) (fun c1 => ?_) (fun c1 => ?_)
    · skip
      refine lv_iconst (v := 0) hx hb dX5_rule_21 (by decide) ?_
      exact ja2 c1
    · skip
      refine lv_iload_n hx hb dX5_rule_9 rfl (lv_at hl 1 rfl) ?_
      refine lv_aload_n hx hb dX5_rule_10 rfl (lv_at hl 0 rfl) ?_
      refine va_get (D := D) (ci := 5) (v := .int (om.1 16)) (C := RX5) (T := TX5) (N := 24) hx hb hts hi5 hown hK hP 0 rfl rfl 16 (by decide) hf117 (fun _ h9 => h9) rfl dX5_rule_11 ?_
      refine W_itei (P := p0 = (om.1 16)) (a := 0) (b := 1) (J := 22) (ls9 := ls) (rest9 := [.int (om.1 15), .ref hm]) (fun ja4 jb4 => ?_) ?_
      · refine lv_icmp_eq (tgt := 21) hx hb dX5_rule_14 (by decide) (fun c3 => ?_) (fun c3 => ?_)
        · skip
          refine lv_iconst (v := 0) hx hb dX5_rule_21 (by decide) ?_
          exact ja4 c3
        · skip
          refine lv_iconst (v := 1) hx hb dX5_rule_17 (by decide) ?_
          refine lv_goto (tgt := 22) hx hb dX5_rule_18 (by decide) ?_
          exact jb4 c3
      exact jb2 c1
  refine lv_iadd hx hb dX5_rule_22 ?_
  refine va_put (D := D) (ci := 5) (v := .int ((om.1 15) + (if p0 = 0 then (0 : Int32) else (if p0 = (om.1 16) then (0 : Int32) else 1)))) (ty := .int) (C := RX5) (T := TX5) (N := 24) hx hb hts hi5 tyX5 tyX5_ok nmX5 hown hK hP hD hS 0 rfl rfl 15 (by decide) hf114 (fun _ h9 => h9) rfl (by decide +kernel) rfl rfl (Nat.le_of_ble_eq_true rfl) dX5_rule_23 (fun H locs hP hD hS => ?_)
  have hP : va_P D vwCl (wX5 cI cZ hm am (us om 15 ((om.1 15) + (if p0 = 0 then (0 : Int32) else (if p0 = (om.1 16) then (0 : Int32) else 1))))) H := hP
  have hD : va_D A (wX5 cI cZ hm am (us om 15 ((om.1 15) + (if p0 = 0 then (0 : Int32) else (if p0 = (om.1 16) then (0 : Int32) else 1))))) := hD
  refine lv_aload_n hx hb dX5_rule_26 rfl (lv_at hl 0 rfl) ?_
  refine lv_iload_n hx hb dX5_rule_27 rfl (lv_at hl 1 rfl) ?_
  refine va_put (D := D) (ci := 5) (v := .int p0) (ty := .int) (C := RX5) (T := TX5) (N := 24) hx hb hts hi5 tyX5 tyX5_ok nmX5 hown hK hP hD hS 0 rfl rfl 16 (by decide) hf117 (fun _ h9 => h9) rfl (by decide +kernel) rfl rfl (Nat.le_of_ble_eq_true rfl) dX5_rule_28 (fun H locs hP hD hS => ?_)
  rw [sw_m_m_s16] at hP hD
  have hP : va_P D vwCl (wX5 cI cZ hm am (us (us om 15 ((om.1 15) + (if p0 = 0 then (0 : Int32) else (if p0 = (om.1 16) then (0 : Int32) else 1)))) 16 p0)) H := hP
  have hD : va_D A (wX5 cI cZ hm am (us (us om 15 ((om.1 15) + (if p0 = 0 then (0 : Int32) else (if p0 = (om.1 16) then (0 : Int32) else 1)))) 16 p0)) := hD
  have e9 : fX5_rule om p0 = (us (us om 15 ((om.1 15) + (if p0 = 0 then (0 : Int32) else (if p0 = (om.1 16) then (0 : Int32) else 1)))) 16 p0) := by
    rfl
  exact W.vret hx hb hr (fun t ht hW => ⟨⟨(us (us om 15 ((om.1 15) + (if p0 = 0 then (0 : Int32) else (if p0 = (om.1 16) then (0 : Int32) else 1)))) 16 p0), rfl, e9.symm, ⟨by rw [ht]; exact hP, hD⟩⟩, hS.F ht⟩) hS.2.2 dX5_rule_31

set_option maxHeartbeats 4000000 in
set_option maxRecDepth 100000 in
theorem kX5_goYears (l : Launch) (D : va_G) (cI cZ cC : ClassId) (hm : Nat) (am : Nat → Nat) (om : OV) (p0 : Int32)  {sz : Nat} : Met l yX5_goYears wsX5_goYears ({ frames := 0, cells := 0, slots := 0, locals := 0 }) (pW D (tyv cI cZ cC) (wX5 cI cZ hm am om) sz [.ref hm, .int p0]) (va_Qv (fun (u : OV) => u = fX5_goYears om p0) (qW D (fun (u : OV) => wX5 cI cZ hm am u) (va_A (wX5 cI cZ hm am om) sz)) (va_A (wX5 cI cZ hm am om) sz)) 0 0 (va_A (wX5 cI cZ hm am om) sz) := by
  refine Met.ofW (cc := cX5_goYears) (maxL := 5) (ret := none) (by decide) rfl ?_
  intro p e s m args below meth c s₁ B hml hv
  obtain ⟨rfl, hsz, hP, hK, hN, hD0⟩ := hv
  have hx := B.exec
  have hb := B.bytes
  have hr := B.returns
  have hts := atoms_spec (ws := wsX5_goYears) B.pre
  have hown : s.vm.findClass RX5 = some m.cls := findClass_of_methodNamed B.named
  have hlocks := B.notSynchronized
  subst hsz
  have hD := hD0.self (sz := s.heap.size)
  generalize hAe : va_A (wX5 cI cZ hm am om) s.heap.size = A at hD ⊢
  have hA : ∀ q : Nat, s.heap.size ≤ q → A q := fun q h => by rw [← hAe]; exact Or.inr h
  have hS : va_S A s.heap s.heap [] := va_S.rf
  have hP : va_P D vwCl (wX5 cI cZ hm am om) s.heap := hP
  have hl := lv_entry ([.ref hm, .int p0]) (n := 5) (Nat.le_of_ble_eq_true rfl)
  rw [lg_entry_eq]
  generalize (lg_sl ([.ref hm, .int p0]) ++ List.replicate (5 - (lg_sl ([.ref hm, .int p0])).length) Slot.unset).toArray = ls at hl ⊢
  have hl : lv_has ls 5 [(0, .ref hm), (1, .int p0)] := hl
  have hSF : CallFix p m c cX5_goYears 5 s _ wsX5_goYears RX5 := ⟨hx, hb, hml, hown, hts⟩
  have hi5 : ∀ w ∈ wsX50, w ∈ wsX5_goYears := by decide +kernel
  have hf117 : (Cond.fieldLink RX5 117 "UmbrellaVoteModel" "ruling" "I").before _ s = true := hts _ (by decide +kernel)
  have hf31 : (Cond.fieldLink RX5 31 "UmbrellaVoteModel" "years" "[I").before _ s = true := hts _ (by decide +kernel)
  have hf16 : (Cond.fieldLink RX5 16 "UmbrellaVoteModel" "partyOf" "[I").before _ s = true := hts _ (by decide +kernel)
  refine lv_iconst (v := 0) hx hb dX5_goYears_0 (by decide) ?_
  refine lv_istore_n (lv' := [(2, .int 0), (0, .ref hm), (1, .int p0)]) hx hb dX5_goYears_1 rfl hl (by decide) rfl (fun ls hl => ?_)
  refine lv_iconst (v := 0) hx hb dX5_goYears_2 (by decide) ?_
  refine lv_istore_n (lv' := [(3, .int 0), (2, .int 0), (0, .ref hm), (1, .int p0)]) hx hb dX5_goYears_3 rfl hl (by decide) rfl (fun ls hl => ?_)
  refine W_lpW (6) (fun k9 H9 locs9 ls9 => va_P D vwCl (wX5 cI cZ hm am (fX5_goYears_L4 p0 0 om k9).2) H9 ∧ va_D A (wX5 cI cZ hm am (fX5_goYears_L4 p0 0 om k9).2) ∧ va_S A s.heap H9 locs9 ∧ lv_has ls9 5 [(3, .int (nI k9)), (2, .int (fX5_goYears_L4 p0 0 om k9).1), (0, .ref hm), (1, .int p0)]) ⟨hP, hD, hS, lv_sub hl [0, 1, 2, 3] rfl⟩ ?_ ?_
  · intro k1 H locs ls hk1 hI9 ih1
    obtain ⟨hP, hD, hS, hl⟩ := hI9
    generalize hs1 : fX5_goYears_L4 p0 0 om k1 = y1 at hP hD hl
    obtain ⟨x2_1, om1⟩ := y1
    try dsimp only at hP hD hl
    have hP : va_P D vwCl (wX5 cI cZ hm am om1) H := hP
    have hD : va_D A (wX5 cI cZ hm am om1) := hD
    have hl : lv_has ls 5 [(3, .int (nI k1)), (2, .int x2_1), (0, .ref hm), (1, .int p0)] := hl
    refine lv_iload_n hx hb dX5_goYears_4 rfl (lv_at hl 0 rfl) ?_
    refine lv_bipush (v := 6) hx hb dX5_goYears_5 (by decide) ?_
    refine lv_icmp_ge (tgt := 74) hx hb dX5_goYears_7 (by decide) (fun c2 => absurd c2 (nI_ge hk1 (by decide))) (fun c2 => ?_)
    refine lv_aload_n hx hb dX5_goYears_10 rfl (lv_at hl 2 rfl) ?_
    refine va_get (D := D) (ci := 5) (v := .int (om1.1 16)) (C := RX5) (T := TX5) (N := 24) hx hb hts hi5 hown hK hP 0 rfl rfl 16 (by decide) hf117 (fun _ h9 => h9) rfl dX5_goYears_11 ?_
    refine lv_iload_n hx hb dX5_goYears_14 rfl (lv_at hl 0 rfl) ?_
    refine lv_ishr hx hb dX5_goYears_15 ?_
    refine lv_iconst (v := 1) hx hb dX5_goYears_16 (by decide) ?_
    refine lv_iand hx hb dX5_goYears_17 ?_
    refine lv_iconst (v := 1) hx hb dX5_goYears_18 (by decide) ?_
    refine W_itei (P := (((om1.1 16) >>> ((nI k1) &&& 31)) &&& 1) = 1) (a := 1) (b := 0) (J := 27) (ls9 := ls) (rest9 := []) (fun ja4 jb4 => ?_) ?_
    · refine lv_icmp_ne (tgt := 26) hx hb dX5_goYears_19 (by decide) (fun c3 => ?_) (fun c3 => ?_)
      · skip
        refine lv_iconst (v := 0) hx hb dX5_goYears_26 (by decide) ?_
        exact jb4 c3
      · skip
        refine lv_iconst (v := 1) hx hb dX5_goYears_22 (by decide) ?_
        refine lv_goto (tgt := 27) hx hb dX5_goYears_23 (by decide) ?_
        exact ja4 c3
    refine lv_istore (lv' := [(4, .int (if (((om1.1 16) >>> ((nI k1) &&& 31)) &&& 1) = 1 then (1 : Int32) else 0)), (3, .int (nI k1)), (2, .int x2_1), (0, .ref hm), (1, .int p0)]) hx hb dX5_goYears_27 hl (by decide) rfl (fun ls hl => ?_)
    refine lv_aload_n hx hb dX5_goYears_29 rfl (lv_at hl 3 rfl) ?_
    refine va_get (D := D) (ci := 5) (v := .ref (am 14)) (C := RX5) (T := TX5) (N := 24) hx hb hts hi5 hown hK hP 0 rfl rfl 14 (by decide) hf31 (fun _ h9 => h9) rfl dX5_goYears_30 ?_
    refine lv_iload_n hx hb dX5_goYears_33 rfl (lv_at hl 1 rfl) ?_
    refine lv_dup2_11 hx hb dX5_goYears_34 rfl rfl ?_
    refine va_iald (f := (om1.2 14)) hx hb hK hP 8 0 rfl rfl (vp_in_nI (Nat.lt_of_lt_of_le hk1 (by decide)) (by decide)) dX5_goYears_35 ?_
    refine lv_iload hx hb dX5_goYears_36 (lv_at hl 0 rfl) ?_
    refine W_itei (P := (if (((om1.1 16) >>> ((nI k1) &&& 31)) &&& 1) = 1 then (1 : Int32) else 0) = 0) (a := 0) (b := p0) (J := 46) (ls9 := ls) (rest9 := [.int ((om1.2 14) (nI k1).toNatClampNeg), .int (nI k1), .ref (am 14)]) (fun ja6 jb6 => ?_) ?_
    · refine lv_if_eq (tgt := 45) hx hb dX5_goYears_38 (by decide) (fun c5 => ?_) (fun c5 => ?_)
      · skip
        refine lv_iconst (v := 0) hx hb dX5_goYears_45 (by decide) ?_
        exact ja6 c5
      · skip
        refine lv_iload_n hx hb dX5_goYears_41 rfl (lv_at hl 4 rfl) ?_
        refine lv_goto (tgt := 46) hx hb dX5_goYears_42 (by decide) ?_
        exact jb6 c5
    refine lv_iadd hx hb dX5_goYears_46 ?_
    refine va_iast hx hb hK hP hD hS 8 0 rfl rfl (vp_in_nI (Nat.lt_of_lt_of_le hk1 (by decide)) (by decide)) dX5_goYears_47 (fun H locs hP hD hS => ?_)
    have hP : va_P D vwCl (wX5 cI cZ hm am (ua om1 14 (nI k1).toNatClampNeg (((om1.2 14) (nI k1).toNatClampNeg) + (if (if (((om1.1 16) >>> ((nI k1) &&& 31)) &&& 1) = 1 then (1 : Int32) else 0) = 0 then (0 : Int32) else p0)))) H := hP
    have hD : va_D A (wX5 cI cZ hm am (ua om1 14 (nI k1).toNatClampNeg (((om1.2 14) (nI k1).toNatClampNeg) + (if (if (((om1.1 16) >>> ((nI k1) &&& 31)) &&& 1) = 1 then (1 : Int32) else 0) = 0 then (0 : Int32) else p0)))) := hD
    refine lv_iload_n hx hb dX5_goYears_48 rfl (lv_at hl 2 rfl) ?_
    refine lv_iload hx hb dX5_goYears_49 (lv_at hl 0 rfl) ?_
    refine W_itei (P := (if (((om1.1 16) >>> ((nI k1) &&& 31)) &&& 1) = 1 then (1 : Int32) else 0) = 0) (a := 0) (b := (1 <<< (((om1.2 3) (nI k1).toNatClampNeg) &&& 31))) (J := 66) (ls9 := ls) (rest9 := [.int x2_1]) (fun ja8 jb8 => ?_) ?_
    · refine lv_if_eq (tgt := 65) hx hb dX5_goYears_51 (by decide) (fun c7 => ?_) (fun c7 => ?_)
      · skip
        refine lv_iconst (v := 0) hx hb dX5_goYears_65 (by decide) ?_
        exact ja8 c7
      · skip
        refine lv_iconst (v := 1) hx hb dX5_goYears_54 (by decide) ?_
        refine lv_aload_n hx hb dX5_goYears_55 rfl (lv_at hl 3 rfl) ?_
        refine va_get (D := D) (ci := 5) (v := .ref (am 3)) (C := RX5) (T := TX5) (N := 24) hx hb hts hi5 hown hK hP 0 rfl rfl 3 (by decide) hf16 (fun _ h9 => h9) rfl dX5_goYears_56 ?_
        refine lv_iload_n hx hb dX5_goYears_59 rfl (lv_at hl 1 rfl) ?_
        refine va_iald (f := (om1.2 3)) hx hb hK hP 3 0 rfl rfl (vp_in_nI (Nat.lt_of_lt_of_le hk1 (by decide)) (by decide)) dX5_goYears_60 ?_
        refine lv_ishl hx hb dX5_goYears_61 ?_
        refine lv_goto (tgt := 66) hx hb dX5_goYears_62 (by decide) ?_
        exact jb8 c7
    refine lv_ior hx hb dX5_goYears_66 ?_
    refine lv_topi (fun x9 ex9 => ?_)
    refine lv_istore_n (lv' := [(2, .int x9), (4, .int (if (((om1.1 16) >>> ((nI k1) &&& 31)) &&& 1) = 1 then (1 : Int32) else 0)), (3, .int (nI k1)), (0, .ref hm), (1, .int p0)]) hx hb dX5_goYears_67 rfl hl (by decide) rfl (fun ls hl => ?_)
    refine lv_iinc (v := ((nI k1) + 1)) (lv' := [(3, .int ((nI k1) + 1)), (2, .int x9), (4, .int (if (((om1.1 16) >>> ((nI k1) &&& 31)) &&& 1) = 1 then (1 : Int32) else 0)), (0, .ref hm), (1, .int p0)]) hx hb dX5_goYears_68 hl (k := 2) rfl rfl (by decide) rfl (fun ls hl => ?_)
    refine lv_goto (tgt := 4) hx hb dX5_goYears_71 (by decide) ?_
    have e8 : fX5_goYears_L4s p0 k1 x2_1 om1 = (x9, (ua om1 14 (nI k1).toNatClampNeg (((om1.2 14) (nI k1).toNatClampNeg) + (if (if (((om1.1 16) >>> ((nI k1) &&& 31)) &&& 1) = 1 then (1 : Int32) else 0) = 0 then (0 : Int32) else p0)))) := by
      unfold fX5_goYears_L4s
      rw [← ex9]
      rfl
    have e7 : fX5_goYears_L4 p0 0 om (k1 + 1) = (x9, (ua om1 14 (nI k1).toNatClampNeg (((om1.2 14) (nI k1).toNatClampNeg) + (if (if (((om1.1 16) >>> ((nI k1) &&& 31)) &&& 1) = 1 then (1 : Int32) else 0) = 0 then (0 : Int32) else p0)))) := by
      show fX5_goYears_L4s p0 k1 (fX5_goYears_L4 p0 0 om k1).1 (fX5_goYears_L4 p0 0 om k1).2 = _
      rw [hs1]; exact e8
    have hl9 : lv_has ls 5 [(3, .int (nI (k1 + 1))), (2, .int (fX5_goYears_L4 p0 0 om (k1 + 1)).1), (0, .ref hm), (1, .int p0)] := by
      rw [nI_succ, e7]; exact lv_sub hl [0, 1, 3, 4] rfl
    exact ih1 H locs ls ⟨by rw [e7]; exact hP, by rw [e7]; exact hD, hS, hl9⟩
  intro H locs ls hI9
  obtain ⟨hP, hD, hS, hl⟩ := hI9
  refine lv_iload_n hx hb dX5_goYears_4 rfl (lv_at hl 0 rfl) ?_
  refine lv_bipush (v := 6) hx hb dX5_goYears_5 (by decide) ?_
  refine lv_icmp_ge (tgt := 74) hx hb dX5_goYears_7 (by decide) (fun c10 => ?_) (fun c10 => absurd (nI_le (Nat.le_refl _) (by decide)) c10)
  refine lv_aload_n hx hb dX5_goYears_74 rfl (lv_at hl 2 rfl) ?_
  refine va_get (D := D) (ci := 5) (v := .ref (am 14)) (C := RX5) (T := TX5) (N := 24) hx hb hts hi5 hown hK hP 0 rfl rfl 14 (by decide) hf31 (fun _ h9 => h9) rfl dX5_goYears_75 ?_
  refine lv_bipush (v := 6) hx hb dX5_goYears_78 (by decide) ?_
  refine lv_dup2_11 hx hb dX5_goYears_80 rfl rfl ?_
  refine va_iald (f := ((fX5_goYears_L4 p0 0 om (6)).2.2 14)) hx hb hK hP 8 0 rfl rfl (vp_in_nI (n := 6) (by decide) (by decide)) dX5_goYears_81 ?_
  refine lv_iload_n hx hb dX5_goYears_82 rfl (lv_at hl 1 rfl) ?_
  refine lv_iconst (v := 1) hx hb dX5_goYears_83 (by decide) ?_
  refine lv_iand hx hb dX5_goYears_84 ?_
  refine lv_iconst (v := 1) hx hb dX5_goYears_85 (by decide) ?_
  refine W_itei (P := ((fX5_goYears_L4 p0 0 om (6)).1 &&& 1) = 1) (a := p0) (b := 0) (J := 94) (ls9 := ls) (rest9 := [.int (((fX5_goYears_L4 p0 0 om (6)).2.2 14) (6 : Int32).toNatClampNeg), .int 6, .ref (am 14)]) (fun ja12 jb12 => ?_) ?_
  · refine lv_icmp_ne (tgt := 93) hx hb dX5_goYears_86 (by decide) (fun c11 => ?_) (fun c11 => ?_)
    · skip
      refine lv_iconst (v := 0) hx hb dX5_goYears_93 (by decide) ?_
      exact jb12 c11
    · skip
      refine lv_iload_n hx hb dX5_goYears_89 rfl (lv_at hl 3 rfl) ?_
      refine lv_goto (tgt := 94) hx hb dX5_goYears_90 (by decide) ?_
      exact ja12 c11
  refine lv_iadd hx hb dX5_goYears_94 ?_
  refine va_iast hx hb hK hP hD hS 8 0 rfl rfl (vp_in_nI (n := 6) (by decide) (by decide)) dX5_goYears_95 (fun H locs hP hD hS => ?_)
  rw [sw_m_m_a14] at hP hD
  have hP : va_P D vwCl (wX5 cI cZ hm am (ua (fX5_goYears_L4 p0 0 om (6)).2 14 ((6 : Int32).toNatClampNeg) ((((fX5_goYears_L4 p0 0 om (6)).2.2 14) (6 : Int32).toNatClampNeg) + (if ((fX5_goYears_L4 p0 0 om (6)).1 &&& 1) = 1 then p0 else 0)))) H := hP
  have hD : va_D A (wX5 cI cZ hm am (ua (fX5_goYears_L4 p0 0 om (6)).2 14 ((6 : Int32).toNatClampNeg) ((((fX5_goYears_L4 p0 0 om (6)).2.2 14) (6 : Int32).toNatClampNeg) + (if ((fX5_goYears_L4 p0 0 om (6)).1 &&& 1) = 1 then p0 else 0)))) := hD
  refine lv_aload_n hx hb dX5_goYears_96 rfl (lv_at hl 2 rfl) ?_
  refine va_get (D := D) (ci := 5) (v := .ref (am 14)) (C := RX5) (T := TX5) (N := 24) hx hb hts hi5 hown hK hP 0 rfl rfl 14 (by decide) hf31 (fun _ h9 => h9) rfl dX5_goYears_97 ?_
  refine lv_bipush (v := 7) hx hb dX5_goYears_100 (by decide) ?_
  refine lv_dup2_11 hx hb dX5_goYears_102 rfl rfl ?_
  refine va_iald (f := ((ua (fX5_goYears_L4 p0 0 om (6)).2 14 ((6 : Int32).toNatClampNeg) ((((fX5_goYears_L4 p0 0 om (6)).2.2 14) (6 : Int32).toNatClampNeg) + (if ((fX5_goYears_L4 p0 0 om (6)).1 &&& 1) = 1 then p0 else 0))).2 14)) hx hb hK hP 8 0 rfl rfl (vp_in_nI (n := 7) (by decide) (by decide)) dX5_goYears_103 ?_
  refine lv_iload_n hx hb dX5_goYears_104 rfl (lv_at hl 1 rfl) ?_
  refine lv_iconst (v := 1) hx hb dX5_goYears_105 (by decide) ?_
  refine W_itei (P := (fX5_goYears_L4 p0 0 om (6)).1 ≤ 1) (a := 0) (b := p0) (J := 114) (ls9 := ls) (rest9 := [.int (((ua (fX5_goYears_L4 p0 0 om (6)).2 14 ((6 : Int32).toNatClampNeg) ((((fX5_goYears_L4 p0 0 om (6)).2.2 14) (6 : Int32).toNatClampNeg) + (if ((fX5_goYears_L4 p0 0 om (6)).1 &&& 1) = 1 then p0 else 0))).2 14) (7 : Int32).toNatClampNeg), .int 7, .ref (am 14)]) (fun ja14 jb14 => ?_) ?_
  · refine lv_icmp_le (tgt := 113) hx hb dX5_goYears_106 (by decide) (fun c13 => ?_) (fun c13 => ?_)
    · skip
      refine lv_iconst (v := 0) hx hb dX5_goYears_113 (by decide) ?_
      exact ja14 c13
    · skip
      refine lv_iload_n hx hb dX5_goYears_109 rfl (lv_at hl 3 rfl) ?_
      refine lv_goto (tgt := 114) hx hb dX5_goYears_110 (by decide) ?_
      exact jb14 c13
  refine lv_iadd hx hb dX5_goYears_114 ?_
  refine va_iast hx hb hK hP hD hS 8 0 rfl rfl (vp_in_nI (n := 7) (by decide) (by decide)) dX5_goYears_115 (fun H locs hP hD hS => ?_)
  rw [sw_m_m_a14] at hP hD
  have hP : va_P D vwCl (wX5 cI cZ hm am (ua (ua (fX5_goYears_L4 p0 0 om (6)).2 14 ((6 : Int32).toNatClampNeg) ((((fX5_goYears_L4 p0 0 om (6)).2.2 14) (6 : Int32).toNatClampNeg) + (if ((fX5_goYears_L4 p0 0 om (6)).1 &&& 1) = 1 then p0 else 0))) 14 ((7 : Int32).toNatClampNeg) ((((ua (fX5_goYears_L4 p0 0 om (6)).2 14 ((6 : Int32).toNatClampNeg) ((((fX5_goYears_L4 p0 0 om (6)).2.2 14) (6 : Int32).toNatClampNeg) + (if ((fX5_goYears_L4 p0 0 om (6)).1 &&& 1) = 1 then p0 else 0))).2 14) (7 : Int32).toNatClampNeg) + (if (fX5_goYears_L4 p0 0 om (6)).1 ≤ 1 then (0 : Int32) else p0)))) H := hP
  have hD : va_D A (wX5 cI cZ hm am (ua (ua (fX5_goYears_L4 p0 0 om (6)).2 14 ((6 : Int32).toNatClampNeg) ((((fX5_goYears_L4 p0 0 om (6)).2.2 14) (6 : Int32).toNatClampNeg) + (if ((fX5_goYears_L4 p0 0 om (6)).1 &&& 1) = 1 then p0 else 0))) 14 ((7 : Int32).toNatClampNeg) ((((ua (fX5_goYears_L4 p0 0 om (6)).2 14 ((6 : Int32).toNatClampNeg) ((((fX5_goYears_L4 p0 0 om (6)).2.2 14) (6 : Int32).toNatClampNeg) + (if ((fX5_goYears_L4 p0 0 om (6)).1 &&& 1) = 1 then p0 else 0))).2 14) (7 : Int32).toNatClampNeg) + (if (fX5_goYears_L4 p0 0 om (6)).1 ≤ 1 then (0 : Int32) else p0)))) := hD
  refine lv_aload_n hx hb dX5_goYears_116 rfl (lv_at hl 2 rfl) ?_
  refine va_get (D := D) (ci := 5) (v := .ref (am 14)) (C := RX5) (T := TX5) (N := 24) hx hb hts hi5 hown hK hP 0 rfl rfl 14 (by decide) hf31 (fun _ h9 => h9) rfl dX5_goYears_117 ?_
  refine lv_bipush (v := 8) hx hb dX5_goYears_120 (by decide) ?_
  refine lv_dup2_11 hx hb dX5_goYears_122 rfl rfl ?_
  refine va_iald (f := ((ua (ua (fX5_goYears_L4 p0 0 om (6)).2 14 ((6 : Int32).toNatClampNeg) ((((fX5_goYears_L4 p0 0 om (6)).2.2 14) (6 : Int32).toNatClampNeg) + (if ((fX5_goYears_L4 p0 0 om (6)).1 &&& 1) = 1 then p0 else 0))) 14 ((7 : Int32).toNatClampNeg) ((((ua (fX5_goYears_L4 p0 0 om (6)).2 14 ((6 : Int32).toNatClampNeg) ((((fX5_goYears_L4 p0 0 om (6)).2.2 14) (6 : Int32).toNatClampNeg) + (if ((fX5_goYears_L4 p0 0 om (6)).1 &&& 1) = 1 then p0 else 0))).2 14) (7 : Int32).toNatClampNeg) + (if (fX5_goYears_L4 p0 0 om (6)).1 ≤ 1 then (0 : Int32) else p0))).2 14)) hx hb hK hP 8 0 rfl rfl (vp_in_nI (n := 8) (by decide) (by decide)) dX5_goYears_123 ?_
  refine lv_aload_n hx hb dX5_goYears_124 rfl (lv_at hl 2 rfl) ?_
  refine va_get (D := D) (ci := 5) (v := .int ((fX5_goYears_L4 p0 0 om (6)).2.1 16)) (C := RX5) (T := TX5) (N := 24) hx hb hts hi5 hown hK hP 0 rfl rfl 16 (by decide) hf117 (fun _ h9 => h9) rfl dX5_goYears_125 ?_
  refine W_itei (P := ((fX5_goYears_L4 p0 0 om (6)).2.1 16) = 0) (a := p0) (b := 0) (J := 136) (ls9 := ls) (rest9 := [.int (((ua (ua (fX5_goYears_L4 p0 0 om (6)).2 14 ((6 : Int32).toNatClampNeg) ((((fX5_goYears_L4 p0 0 om (6)).2.2 14) (6 : Int32).toNatClampNeg) + (if ((fX5_goYears_L4 p0 0 om (6)).1 &&& 1) = 1 then p0 else 0))) 14 ((7 : Int32).toNatClampNeg) ((((ua (fX5_goYears_L4 p0 0 om (6)).2 14 ((6 : Int32).toNatClampNeg) ((((fX5_goYears_L4 p0 0 om (6)).2.2 14) (6 : Int32).toNatClampNeg) + (if ((fX5_goYears_L4 p0 0 om (6)).1 &&& 1) = 1 then p0 else 0))).2 14) (7 : Int32).toNatClampNeg) + (if (fX5_goYears_L4 p0 0 om (6)).1 ≤ 1 then (0 : Int32) else p0))).2 14) (8 : Int32).toNatClampNeg), .int 8, .ref (am 14)]) (fun ja16 jb16 => ?_) ?_
  · refine lv_if_ne (tgt := 135) hx hb dX5_goYears_128 (by decide) (fun c15 => ?_) (fun c15 => ?_)
    · skip
      refine lv_iconst (v := 0) hx hb dX5_goYears_135 (by decide) ?_
      exact jb16 c15
    · skip
      refine lv_iload_n hx hb dX5_goYears_131 rfl (lv_at hl 3 rfl) ?_
      refine lv_goto (tgt := 136) hx hb dX5_goYears_132 (by decide) ?_
      exact ja16 c15
  refine lv_iadd hx hb dX5_goYears_136 ?_
  refine va_iast hx hb hK hP hD hS 8 0 rfl rfl (vp_in_nI (n := 8) (by decide) (by decide)) dX5_goYears_137 (fun H locs hP hD hS => ?_)
  rw [sw_m_m_a14] at hP hD
  have hP : va_P D vwCl (wX5 cI cZ hm am (ua (ua (ua (fX5_goYears_L4 p0 0 om (6)).2 14 ((6 : Int32).toNatClampNeg) ((((fX5_goYears_L4 p0 0 om (6)).2.2 14) (6 : Int32).toNatClampNeg) + (if ((fX5_goYears_L4 p0 0 om (6)).1 &&& 1) = 1 then p0 else 0))) 14 ((7 : Int32).toNatClampNeg) ((((ua (fX5_goYears_L4 p0 0 om (6)).2 14 ((6 : Int32).toNatClampNeg) ((((fX5_goYears_L4 p0 0 om (6)).2.2 14) (6 : Int32).toNatClampNeg) + (if ((fX5_goYears_L4 p0 0 om (6)).1 &&& 1) = 1 then p0 else 0))).2 14) (7 : Int32).toNatClampNeg) + (if (fX5_goYears_L4 p0 0 om (6)).1 ≤ 1 then (0 : Int32) else p0))) 14 ((8 : Int32).toNatClampNeg) ((((ua (ua (fX5_goYears_L4 p0 0 om (6)).2 14 ((6 : Int32).toNatClampNeg) ((((fX5_goYears_L4 p0 0 om (6)).2.2 14) (6 : Int32).toNatClampNeg) + (if ((fX5_goYears_L4 p0 0 om (6)).1 &&& 1) = 1 then p0 else 0))) 14 ((7 : Int32).toNatClampNeg) ((((ua (fX5_goYears_L4 p0 0 om (6)).2 14 ((6 : Int32).toNatClampNeg) ((((fX5_goYears_L4 p0 0 om (6)).2.2 14) (6 : Int32).toNatClampNeg) + (if ((fX5_goYears_L4 p0 0 om (6)).1 &&& 1) = 1 then p0 else 0))).2 14) (7 : Int32).toNatClampNeg) + (if (fX5_goYears_L4 p0 0 om (6)).1 ≤ 1 then (0 : Int32) else p0))).2 14) (8 : Int32).toNatClampNeg) + (if ((fX5_goYears_L4 p0 0 om (6)).2.1 16) = 0 then p0 else 0)))) H := hP
  have hD : va_D A (wX5 cI cZ hm am (ua (ua (ua (fX5_goYears_L4 p0 0 om (6)).2 14 ((6 : Int32).toNatClampNeg) ((((fX5_goYears_L4 p0 0 om (6)).2.2 14) (6 : Int32).toNatClampNeg) + (if ((fX5_goYears_L4 p0 0 om (6)).1 &&& 1) = 1 then p0 else 0))) 14 ((7 : Int32).toNatClampNeg) ((((ua (fX5_goYears_L4 p0 0 om (6)).2 14 ((6 : Int32).toNatClampNeg) ((((fX5_goYears_L4 p0 0 om (6)).2.2 14) (6 : Int32).toNatClampNeg) + (if ((fX5_goYears_L4 p0 0 om (6)).1 &&& 1) = 1 then p0 else 0))).2 14) (7 : Int32).toNatClampNeg) + (if (fX5_goYears_L4 p0 0 om (6)).1 ≤ 1 then (0 : Int32) else p0))) 14 ((8 : Int32).toNatClampNeg) ((((ua (ua (fX5_goYears_L4 p0 0 om (6)).2 14 ((6 : Int32).toNatClampNeg) ((((fX5_goYears_L4 p0 0 om (6)).2.2 14) (6 : Int32).toNatClampNeg) + (if ((fX5_goYears_L4 p0 0 om (6)).1 &&& 1) = 1 then p0 else 0))) 14 ((7 : Int32).toNatClampNeg) ((((ua (fX5_goYears_L4 p0 0 om (6)).2 14 ((6 : Int32).toNatClampNeg) ((((fX5_goYears_L4 p0 0 om (6)).2.2 14) (6 : Int32).toNatClampNeg) + (if ((fX5_goYears_L4 p0 0 om (6)).1 &&& 1) = 1 then p0 else 0))).2 14) (7 : Int32).toNatClampNeg) + (if (fX5_goYears_L4 p0 0 om (6)).1 ≤ 1 then (0 : Int32) else p0))).2 14) (8 : Int32).toNatClampNeg) + (if ((fX5_goYears_L4 p0 0 om (6)).2.1 16) = 0 then p0 else 0)))) := hD
  have e9 : fX5_goYears om p0 = (ua (ua (ua (fX5_goYears_L4 p0 0 om (6)).2 14 ((6 : Int32).toNatClampNeg) ((((fX5_goYears_L4 p0 0 om (6)).2.2 14) (6 : Int32).toNatClampNeg) + (if ((fX5_goYears_L4 p0 0 om (6)).1 &&& 1) = 1 then p0 else 0))) 14 ((7 : Int32).toNatClampNeg) ((((ua (fX5_goYears_L4 p0 0 om (6)).2 14 ((6 : Int32).toNatClampNeg) ((((fX5_goYears_L4 p0 0 om (6)).2.2 14) (6 : Int32).toNatClampNeg) + (if ((fX5_goYears_L4 p0 0 om (6)).1 &&& 1) = 1 then p0 else 0))).2 14) (7 : Int32).toNatClampNeg) + (if (fX5_goYears_L4 p0 0 om (6)).1 ≤ 1 then (0 : Int32) else p0))) 14 ((8 : Int32).toNatClampNeg) ((((ua (ua (fX5_goYears_L4 p0 0 om (6)).2 14 ((6 : Int32).toNatClampNeg) ((((fX5_goYears_L4 p0 0 om (6)).2.2 14) (6 : Int32).toNatClampNeg) + (if ((fX5_goYears_L4 p0 0 om (6)).1 &&& 1) = 1 then p0 else 0))) 14 ((7 : Int32).toNatClampNeg) ((((ua (fX5_goYears_L4 p0 0 om (6)).2 14 ((6 : Int32).toNatClampNeg) ((((fX5_goYears_L4 p0 0 om (6)).2.2 14) (6 : Int32).toNatClampNeg) + (if ((fX5_goYears_L4 p0 0 om (6)).1 &&& 1) = 1 then p0 else 0))).2 14) (7 : Int32).toNatClampNeg) + (if (fX5_goYears_L4 p0 0 om (6)).1 ≤ 1 then (0 : Int32) else p0))).2 14) (8 : Int32).toNatClampNeg) + (if ((fX5_goYears_L4 p0 0 om (6)).2.1 16) = 0 then p0 else 0))) := by
    rfl
  exact W.vret hx hb hr (fun t ht hW => ⟨⟨(ua (ua (ua (fX5_goYears_L4 p0 0 om (6)).2 14 ((6 : Int32).toNatClampNeg) ((((fX5_goYears_L4 p0 0 om (6)).2.2 14) (6 : Int32).toNatClampNeg) + (if ((fX5_goYears_L4 p0 0 om (6)).1 &&& 1) = 1 then p0 else 0))) 14 ((7 : Int32).toNatClampNeg) ((((ua (fX5_goYears_L4 p0 0 om (6)).2 14 ((6 : Int32).toNatClampNeg) ((((fX5_goYears_L4 p0 0 om (6)).2.2 14) (6 : Int32).toNatClampNeg) + (if ((fX5_goYears_L4 p0 0 om (6)).1 &&& 1) = 1 then p0 else 0))).2 14) (7 : Int32).toNatClampNeg) + (if (fX5_goYears_L4 p0 0 om (6)).1 ≤ 1 then (0 : Int32) else p0))) 14 ((8 : Int32).toNatClampNeg) ((((ua (ua (fX5_goYears_L4 p0 0 om (6)).2 14 ((6 : Int32).toNatClampNeg) ((((fX5_goYears_L4 p0 0 om (6)).2.2 14) (6 : Int32).toNatClampNeg) + (if ((fX5_goYears_L4 p0 0 om (6)).1 &&& 1) = 1 then p0 else 0))) 14 ((7 : Int32).toNatClampNeg) ((((ua (fX5_goYears_L4 p0 0 om (6)).2 14 ((6 : Int32).toNatClampNeg) ((((fX5_goYears_L4 p0 0 om (6)).2.2 14) (6 : Int32).toNatClampNeg) + (if ((fX5_goYears_L4 p0 0 om (6)).1 &&& 1) = 1 then p0 else 0))).2 14) (7 : Int32).toNatClampNeg) + (if (fX5_goYears_L4 p0 0 om (6)).1 ≤ 1 then (0 : Int32) else p0))).2 14) (8 : Int32).toNatClampNeg) + (if ((fX5_goYears_L4 p0 0 om (6)).2.1 16) = 0 then p0 else 0))), rfl, e9.symm, ⟨by rw [ht]; exact hP, hD⟩⟩, hS.F ht⟩) hS.2.2 dX5_goYears_138

set_option maxHeartbeats 4000000 in
set_option maxRecDepth 100000 in
theorem kX5_happen (l : Launch) (D : va_G) (cI cZ cC : ClassId) (hm : Nat) (am : Nat → Nat) (om : OV) (p0 : Int32) (p1 : Int32)  {sz : Nat} : Met l yX5_happen wsX5_happen ({ frames := 6, cells := 0, slots := 0, locals := 138 }) (pW D (tyv cI cZ cC) (wX5 cI cZ hm am om) sz [.ref hm, .int p0, .int p1]) (va_Qv (fun (u : OV) => u = fX5_happen om p0 p1) (qW D (fun (u : OV) => wX5 cI cZ hm am u) (va_A (wX5 cI cZ hm am om) sz)) (va_A (wX5 cI cZ hm am om) sz)) 0 0 (va_A (wX5 cI cZ hm am om) sz) := by
  refine Met.ofW (cc := cX5_happen) (maxL := 4) (ret := none) (by decide) rfl ?_
  intro p e s m args below meth c s₁ B hml hv
  obtain ⟨rfl, hsz, hP, hK, hN, hD0⟩ := hv
  have hx := B.exec
  have hb := B.bytes
  have hr := B.returns
  have hts := atoms_spec (ws := wsX5_happen) B.pre
  have hown : s.vm.findClass RX5 = some m.cls := findClass_of_methodNamed B.named
  have hlocks := B.notSynchronized
  subst hsz
  have hD := hD0.self (sz := s.heap.size)
  generalize hAe : va_A (wX5 cI cZ hm am om) s.heap.size = A at hD ⊢
  have hA : ∀ q : Nat, s.heap.size ≤ q → A q := fun q h => by rw [← hAe]; exact Or.inr h
  have hS : va_S A s.heap s.heap [] := va_S.rf
  have hP : va_P D vwCl (wX5 cI cZ hm am om) s.heap := hP
  have hl := lv_entry ([.ref hm, .int p0, .int p1]) (n := 4) (Nat.le_of_ble_eq_true rfl)
  rw [lg_entry_eq]
  generalize (lg_sl ([.ref hm, .int p0, .int p1]) ++ List.replicate (4 - (lg_sl ([.ref hm, .int p0, .int p1])).length) Slot.unset).toArray = ls at hl ⊢
  have hl : lv_has ls 4 [(0, .ref hm), (1, .int p0), (2, .int p1)] := hl
  have hSF : CallFix p m c cX5_happen 4 s _ wsX5_happen RX5 := ⟨hx, hb, hml, hown, hts⟩
  have hi5 : ∀ w ∈ wsX50, w ∈ wsX5_happen := by decide +kernel
  have hf117 : (Cond.fieldLink RX5 117 "UmbrellaVoteModel" "ruling" "I").before _ s = true := hts _ (by decide +kernel)
  have hf69 : (Cond.fieldLink RX5 69 "UmbrellaVoteModel" "holes" "I").before _ s = true := hts _ (by decide +kernel)
  refine lv_iload_n hx hb dX5_happen_0 rfl (lv_at hl 1 rfl) ?_
  refine lv_if_ne (tgt := 18) hx hb dX5_happen_1 (by decide) (fun c1 => ?_) (fun c1 => ?_)
  · skip
    refine lv_iload_n hx hb dX5_happen_18 rfl (lv_at hl 1 rfl) ?_
    refine lv_bipush (v := 45) hx hb dX5_happen_19 (by decide) ?_
    refine lv_icmp_ne (tgt := 40) hx hb dX5_happen_21 (by decide) (fun c2 => ?_) (fun c2 => ?_)
    · skip
      refine lv_iload_n hx hb dX5_happen_40 rfl (lv_at hl 1 rfl) ?_
      refine lv_bipush (v := 126) hx hb dX5_happen_41 (by decide) ?_
      refine lv_icmp_ne (tgt := 88) hx hb dX5_happen_43 (by decide) (fun c3 => ?_) (fun c3 => ?_)
      · skip
        refine lv_iload_n hx hb dX5_happen_88 rfl (lv_at hl 1 rfl) ?_
        refine W_itei (P := p0 = 0) (a := (fX5_rulersBy om (p1 - 48))) (b := (fX5_sprinkledBy om (p1 - 48))) (J := 111) (ls9 := ls) (rest9 := []) (fun ja5 jb5 => ?_) ?_
        · refine lv_if_ne (tgt := 103) hx hb dX5_happen_89 (by decide) (fun c4 => ?_) (fun c4 => ?_)
          · skip
            refine lv_aload_n hx hb dX5_happen_103 rfl (lv_at hl 0 rfl) ?_
            refine lv_iload_n hx hb dX5_happen_104 rfl (lv_at hl 2 rfl) ?_
            refine lv_bipush (v := 48) hx hb dX5_happen_105 (by decide) ?_
            refine lv_isub hx hb dX5_happen_107 ?_
            refine rcVi (b := hm) (As := [.int (p1 - 48)]) (rest := []) hSF (kX5_sprinkledBy l D cI cZ cC hm am om (p1 - 48)) (cwV 1 hts gX5_happen_X5_sprinkledBy rfl rfl rfl (by decide +kernel) ⟨Nat.le_of_ble_eq_true rfl, Nat.le_of_ble_eq_true rfl⟩) (va_recv hK hP (ci := 5) (q0 := 0) rfl rfl) (hP.sub [0, 1, 2, 3, 4, 5, 6, 7, 8, 9, 10, 11] rfl) hK hN rfl rfl hl.1 (Nat.le_of_ble_eq_true rfl) dX5_happen_108 ⟨Nat.zero_le _, Nat.zero_le _⟩ ?_
            exact jb5 c4
          · skip
            refine lv_aload_n hx hb dX5_happen_92 rfl (lv_at hl 0 rfl) ?_
            refine lv_iload_n hx hb dX5_happen_93 rfl (lv_at hl 2 rfl) ?_
            refine lv_bipush (v := 48) hx hb dX5_happen_94 (by decide) ?_
            refine lv_isub hx hb dX5_happen_96 ?_
            refine rcVi (b := hm) (As := [.int (p1 - 48)]) (rest := []) hSF (kX5_rulersBy l D cI cZ cC hm am om (p1 - 48)) (cwV 1 hts gX5_happen_X5_rulersBy rfl rfl rfl (by decide +kernel) ⟨Nat.le_of_ble_eq_true rfl, Nat.le_of_ble_eq_true rfl⟩) (va_recv hK hP (ci := 5) (q0 := 0) rfl rfl) (hP.sub [0, 1, 2, 3, 4, 5, 6, 7, 8, 9, 10, 11] rfl) hK hN rfl rfl hl.1 (Nat.le_of_ble_eq_true rfl) dX5_happen_97 ⟨Nat.zero_le _, Nat.zero_le _⟩ ?_
            refine lv_goto (tgt := 111) hx hb dX5_happen_100 (by decide) ?_
            exact ja5 c4
        refine lv_istore_n (lv' := [(3, .int (if p0 = 0 then (fX5_rulersBy om (p1 - 48)) else (fX5_sprinkledBy om (p1 - 48)))), (0, .ref hm), (1, .int p0), (2, .int p1)]) hx hb dX5_happen_111 rfl hl (by decide) rfl (fun ls hl => ?_)
        refine lv_aload_n hx hb dX5_happen_112 rfl (lv_at hl 1 rfl) ?_
        refine lv_iload_n hx hb dX5_happen_113 rfl (lv_at hl 0 rfl) ?_
        refine W_itei (P := (if p0 = 0 then (fX5_rulersBy om (p1 - 48)) else (fX5_sprinkledBy om (p1 - 48))) = 0) (a := (om.1 16)) (b := (if p0 = 0 then (fX5_rulersBy om (p1 - 48)) else (fX5_sprinkledBy om (p1 - 48)))) (J := 125) (ls9 := ls) (rest9 := [.ref hm]) (fun ja7 jb7 => ?_) ?_
        · refine lv_if_ne (tgt := 124) hx hb dX5_happen_114 (by decide) (fun c6 => ?_) (fun c6 => ?_)
          · skip
            refine lv_iload_n hx hb dX5_happen_124 rfl (lv_at hl 0 rfl) ?_
            exact jb7 c6
          · skip
            refine lv_aload_n hx hb dX5_happen_117 rfl (lv_at hl 1 rfl) ?_
            refine va_get (D := D) (ci := 5) (v := .int (om.1 16)) (C := RX5) (T := TX5) (N := 24) hx hb hts hi5 hown hK hP 0 rfl rfl 16 (by decide) hf117 (fun _ h9 => h9) rfl dX5_happen_118 ?_
            refine lv_goto (tgt := 125) hx hb dX5_happen_121 (by decide) ?_
            exact ja7 c6
        refine wcVv (b := hm) (As := [.int (if (if p0 = 0 then (fX5_rulersBy om (p1 - 48)) else (fX5_sprinkledBy om (p1 - 48))) = 0 then (om.1 16) else (if p0 = 0 then (fX5_rulersBy om (p1 - 48)) else (fX5_sprinkledBy om (p1 - 48))))]) (rest := []) (wr := []) (ws' := wX5 cI cZ hm am (fX5_rule om (if (if p0 = 0 then (fX5_rulersBy om (p1 - 48)) else (fX5_sprinkledBy om (p1 - 48))) = 0 then (om.1 16) else (if p0 = 0 then (fX5_rulersBy om (p1 - 48)) else (fX5_sprinkledBy om (p1 - 48)))))) hSF (kX5_rule l D cI cZ cC hm am om (if (if p0 = 0 then (fX5_rulersBy om (p1 - 48)) else (fX5_sprinkledBy om (p1 - 48))) = 0 then (om.1 16) else (if p0 = 0 then (fX5_rulersBy om (p1 - 48)) else (fX5_sprinkledBy om (p1 - 48))))) (cwV 1 hts gX5_happen_X5_rule rfl rfl rfl (by decide +kernel) ⟨Nat.le_of_ble_eq_true rfl, Nat.le_of_ble_eq_true rfl⟩) (va_recv hK hP (ci := 5) (q0 := 0) rfl rfl) hP hD hS hA hK hN [0, 1, 2, 3, 4, 5, 6, 7, 8, 9, 10, 11] [] [0, 1, 2, 3, 4, 5, 6, 7, 8, 9, 10, 11] rfl (by decide) rfl (by decide) (by decide) rfl (by decide) rfl rfl hl.1 (Nat.le_of_ble_eq_true rfl) dX5_happen_125 ⟨Nat.zero_le _, Nat.zero_le _⟩ (fun H locs hP hD hS => ?_)
        have e9 : fX5_happen om p0 p1 = (fX5_rule om (if (if p0 = 0 then (fX5_rulersBy om (p1 - 48)) else (fX5_sprinkledBy om (p1 - 48))) = 0 then (om.1 16) else (if p0 = 0 then (fX5_rulersBy om (p1 - 48)) else (fX5_sprinkledBy om (p1 - 48))))) := by
          simp only [fX5_happen, if_neg c1, if_neg c2, if_neg c3]
        exact W.vret hx hb hr (fun t ht hW => ⟨⟨(fX5_rule om (if (if p0 = 0 then (fX5_rulersBy om (p1 - 48)) else (fX5_sprinkledBy om (p1 - 48))) = 0 then (om.1 16) else (if p0 = 0 then (fX5_rulersBy om (p1 - 48)) else (fX5_sprinkledBy om (p1 - 48))))), rfl, e9.symm, ⟨by rw [ht]; exact hP, hD⟩⟩, hS.F ht⟩) hS.2.2 dX5_happen_128
      · skip
        refine lv_iload_n hx hb dX5_happen_46 rfl (lv_at hl 2 rfl) ?_
        refine lv_bipush (v := 65) hx hb dX5_happen_47 (by decide) ?_
        refine lv_isub hx hb dX5_happen_49 ?_
        refine lv_istore_n (lv' := [(3, .int (p1 - 65)), (0, .ref hm), (1, .int p0), (2, .int p1)]) hx hb dX5_happen_50 rfl hl (by decide) rfl (fun ls hl => ?_)
        refine lv_aload_n hx hb dX5_happen_51 rfl (lv_at hl 1 rfl) ?_
        refine lv_iload_n hx hb dX5_happen_52 rfl (lv_at hl 0 rfl) ?_
        refine rcVi (b := hm) (As := [.int (p1 - 65)]) (rest := []) hSF (kX5_isThere l D cI cZ cC hm am om (p1 - 65)) (cwV 1 hts gX5_happen_X5_isThere rfl rfl rfl (by decide +kernel) ⟨Nat.le_of_ble_eq_true rfl, Nat.le_of_ble_eq_true rfl⟩) (va_recv hK hP (ci := 5) (q0 := 0) rfl rfl) (hP.sub [0, 1, 2, 3, 4, 5, 6, 7, 8, 9, 10, 11] rfl) hK hN rfl rfl hl.1 (Nat.le_of_ble_eq_true rfl) dX5_happen_53 ⟨Nat.zero_le _, Nat.zero_le _⟩ ?_
        refine lv_if_eq (tgt := 85) hx hb dX5_happen_56 (by decide) (fun c8 => ?_) (fun c8 => ?_)
        · skip
          refine lv_goto (tgt := 128) hx hb dX5_happen_85 (by decide) ?_
          have e9 : fX5_happen om p0 p1 = om := by
            simp only [fX5_happen, if_neg c1, if_neg c2, if_pos c3, if_pos c8]
          exact W.vret hx hb hr (fun t ht hW => ⟨⟨om, rfl, e9.symm, ⟨by rw [ht]; exact hP, hD⟩⟩, hS.F ht⟩) hS.2.2 dX5_happen_128
        · skip
          refine lv_aload_n hx hb dX5_happen_59 rfl (lv_at hl 1 rfl) ?_
          refine lv_dup hx hb dX5_happen_60 rfl ?_
          refine va_get (D := D) (ci := 5) (v := .int (om.1 4)) (C := RX5) (T := TX5) (N := 24) hx hb hts hi5 hown hK hP 0 rfl rfl 4 (by decide) hf69 (fun _ h9 => h9) rfl dX5_happen_61 ?_
          refine lv_iconst (v := 1) hx hb dX5_happen_64 (by decide) ?_
          refine lv_iload_n hx hb dX5_happen_65 rfl (lv_at hl 0 rfl) ?_
          refine lv_ishl hx hb dX5_happen_66 ?_
          refine lv_ior hx hb dX5_happen_67 ?_
          refine va_put (D := D) (ci := 5) (v := .int ((om.1 4) ||| (1 <<< ((p1 - 65) &&& 31)))) (ty := .int) (C := RX5) (T := TX5) (N := 24) hx hb hts hi5 tyX5 tyX5_ok nmX5 hown hK hP hD hS 0 rfl rfl 4 (by decide) hf69 (fun _ h9 => h9) rfl (by decide +kernel) rfl rfl (Nat.le_of_ble_eq_true rfl) dX5_happen_68 (fun H locs hP hD hS => ?_)
          have hP : va_P D vwCl (wX5 cI cZ hm am (us om 4 ((om.1 4) ||| (1 <<< ((p1 - 65) &&& 31))))) H := hP
          have hD : va_D A (wX5 cI cZ hm am (us om 4 ((om.1 4) ||| (1 <<< ((p1 - 65) &&& 31))))) := hD
          refine lv_aload_n hx hb dX5_happen_71 rfl (lv_at hl 1 rfl) ?_
          refine lv_aload_n hx hb dX5_happen_72 rfl (lv_at hl 1 rfl) ?_
          refine va_get (D := D) (ci := 5) (v := .int (om.1 16)) (C := RX5) (T := TX5) (N := 24) hx hb hts hi5 hown hK hP 0 rfl rfl 16 (by decide) hf117 (fun _ h9 => h9) rfl dX5_happen_73 ?_
          refine lv_iconst (v := 1) hx hb dX5_happen_76 (by decide) ?_
          refine lv_iload_n hx hb dX5_happen_77 rfl (lv_at hl 0 rfl) ?_
          refine lv_ishl hx hb dX5_happen_78 ?_
          refine lv_iconst (v := (-1)) hx hb dX5_happen_79 (by decide) ?_
          refine lv_ixor hx hb dX5_happen_80 ?_
          refine lv_iand hx hb dX5_happen_81 ?_
          refine wcVv (b := hm) (As := [.int ((om.1 16) &&& ((1 <<< ((p1 - 65) &&& 31)) ^^^ (-1)))]) (rest := []) (wr := []) (ws' := wX5 cI cZ hm am (fX5_rule (us om 4 ((om.1 4) ||| (1 <<< ((p1 - 65) &&& 31)))) ((om.1 16) &&& ((1 <<< ((p1 - 65) &&& 31)) ^^^ (-1))))) hSF (kX5_rule l D cI cZ cC hm am (us om 4 ((om.1 4) ||| (1 <<< ((p1 - 65) &&& 31)))) ((om.1 16) &&& ((1 <<< ((p1 - 65) &&& 31)) ^^^ (-1)))) (cwV 1 hts gX5_happen_X5_rule rfl rfl rfl (by decide +kernel) ⟨Nat.le_of_ble_eq_true rfl, Nat.le_of_ble_eq_true rfl⟩) (va_recv hK hP (ci := 5) (q0 := 0) rfl rfl) hP hD hS hA hK hN [0, 1, 2, 3, 4, 5, 6, 7, 8, 9, 10, 11] [] [0, 1, 2, 3, 4, 5, 6, 7, 8, 9, 10, 11] rfl (by decide) rfl (by decide) (by decide) rfl (by decide) rfl rfl hl.1 (Nat.le_of_ble_eq_true rfl) dX5_happen_82 ⟨Nat.zero_le _, Nat.zero_le _⟩ (fun H locs hP hD hS => ?_)
          refine lv_goto (tgt := 128) hx hb dX5_happen_85 (by decide) ?_
          have e9 : fX5_happen om p0 p1 = (fX5_rule (us om 4 ((om.1 4) ||| (1 <<< ((p1 - 65) &&& 31)))) ((om.1 16) &&& ((1 <<< ((p1 - 65) &&& 31)) ^^^ (-1)))) := by
            simp only [fX5_happen, if_neg c1, if_neg c2, if_pos c3, if_neg c8]
          exact W.vret hx hb hr (fun t ht hW => ⟨⟨(fX5_rule (us om 4 ((om.1 4) ||| (1 <<< ((p1 - 65) &&& 31)))) ((om.1 16) &&& ((1 <<< ((p1 - 65) &&& 31)) ^^^ (-1)))), rfl, e9.symm, ⟨by rw [ht]; exact hP, hD⟩⟩, hS.F ht⟩) hS.2.2 dX5_happen_128
    · skip
      refine lv_aload_n hx hb dX5_happen_24 rfl (lv_at hl 0 rfl) ?_
      refine lv_iconst (v := 0) hx hb dX5_happen_25 (by decide) ?_
      refine wcVv (b := hm) (As := [.int 0]) (rest := []) (wr := []) (ws' := wX5 cI cZ hm am (fX5_rule om 0)) hSF (kX5_rule l D cI cZ cC hm am om 0) (cwV 1 hts gX5_happen_X5_rule rfl rfl rfl (by decide +kernel) ⟨Nat.le_of_ble_eq_true rfl, Nat.le_of_ble_eq_true rfl⟩) (va_recv hK hP (ci := 5) (q0 := 0) rfl rfl) hP hD hS hA hK hN [0, 1, 2, 3, 4, 5, 6, 7, 8, 9, 10, 11] [] [0, 1, 2, 3, 4, 5, 6, 7, 8, 9, 10, 11] rfl (by decide) rfl (by decide) (by decide) rfl (by decide) rfl rfl hl.1 (Nat.le_of_ble_eq_true rfl) dX5_happen_26 ⟨Nat.zero_le _, Nat.zero_le _⟩ (fun H locs hP hD hS => ?_)
      refine lv_aload_n hx hb dX5_happen_29 rfl (lv_at hl 0 rfl) ?_
      refine lv_iload_n hx hb dX5_happen_30 rfl (lv_at hl 2 rfl) ?_
      refine lv_bipush (v := 48) hx hb dX5_happen_31 (by decide) ?_
      refine lv_isub hx hb dX5_happen_33 ?_
      refine wcVv (b := hm) (As := [.int (p1 - 48)]) (rest := []) (wr := []) (ws' := wX5 cI cZ hm am (fX5_goYears (fX5_rule om 0) (p1 - 48))) hSF (kX5_goYears l D cI cZ cC hm am (fX5_rule om 0) (p1 - 48)) (cwV 1 hts gX5_happen_X5_goYears rfl rfl rfl (by decide +kernel) ⟨Nat.le_of_ble_eq_true rfl, Nat.le_of_ble_eq_true rfl⟩) (va_recv hK hP (ci := 5) (q0 := 0) rfl rfl) hP hD hS hA hK hN [0, 1, 2, 3, 4, 5, 6, 7, 8, 9, 10, 11] [] [0, 1, 2, 3, 4, 5, 6, 7, 8, 9, 10, 11] rfl (by decide) rfl (by decide) (by decide) rfl (by decide) rfl rfl hl.1 (Nat.le_of_ble_eq_true rfl) dX5_happen_34 ⟨Nat.zero_le _, Nat.zero_le _⟩ (fun H locs hP hD hS => ?_)
      refine lv_goto (tgt := 128) hx hb dX5_happen_37 (by decide) ?_
      have e9 : fX5_happen om p0 p1 = (fX5_goYears (fX5_rule om 0) (p1 - 48)) := by
        simp only [fX5_happen, if_neg c1, if_pos c2]
      exact W.vret hx hb hr (fun t ht hW => ⟨⟨(fX5_goYears (fX5_rule om 0) (p1 - 48)), rfl, e9.symm, ⟨by rw [ht]; exact hP, hD⟩⟩, hS.F ht⟩) hS.2.2 dX5_happen_128
  · skip
    refine lv_iload_n hx hb dX5_happen_4 rfl (lv_at hl 2 rfl) ?_
    refine lv_bipush (v := 46) hx hb dX5_happen_5 (by decide) ?_
    refine lv_icmp_ne (tgt := 18) hx hb dX5_happen_7 (by decide) (fun c9 => ?_) (fun c9 => ?_)
    · skip
      refine lv_iload_n hx hb dX5_happen_18 rfl (lv_at hl 1 rfl) ?_
      refine lv_bipush (v := 45) hx hb dX5_happen_19 (by decide) ?_
      refine lv_icmp_ne (tgt := 40) hx hb dX5_happen_21 (by decide) (fun c10 => ?_) (fun c10 => ?_)
      · skip
        refine lv_iload_n hx hb dX5_happen_40 rfl (lv_at hl 1 rfl) ?_
        refine lv_bipush (v := 126) hx hb dX5_happen_41 (by decide) ?_
        refine lv_icmp_ne (tgt := 88) hx hb dX5_happen_43 (by decide) (fun c11 => ?_) (fun c11 => ?_)
        · skip
          refine lv_iload_n hx hb dX5_happen_88 rfl (lv_at hl 1 rfl) ?_
          refine W_itei (P := p0 = 0) (a := (fX5_rulersBy om (p1 - 48))) (b := (fX5_sprinkledBy om (p1 - 48))) (J := 111) (ls9 := ls) (rest9 := []) (fun ja13 jb13 => ?_) ?_
          · refine lv_if_ne (tgt := 103) hx hb dX5_happen_89 (by decide) (fun c12 => ?_) (fun c12 => ?_)
            · skip
              refine lv_aload_n hx hb dX5_happen_103 rfl (lv_at hl 0 rfl) ?_
              refine lv_iload_n hx hb dX5_happen_104 rfl (lv_at hl 2 rfl) ?_
              refine lv_bipush (v := 48) hx hb dX5_happen_105 (by decide) ?_
              refine lv_isub hx hb dX5_happen_107 ?_
              refine rcVi (b := hm) (As := [.int (p1 - 48)]) (rest := []) hSF (kX5_sprinkledBy l D cI cZ cC hm am om (p1 - 48)) (cwV 1 hts gX5_happen_X5_sprinkledBy rfl rfl rfl (by decide +kernel) ⟨Nat.le_of_ble_eq_true rfl, Nat.le_of_ble_eq_true rfl⟩) (va_recv hK hP (ci := 5) (q0 := 0) rfl rfl) (hP.sub [0, 1, 2, 3, 4, 5, 6, 7, 8, 9, 10, 11] rfl) hK hN rfl rfl hl.1 (Nat.le_of_ble_eq_true rfl) dX5_happen_108 ⟨Nat.zero_le _, Nat.zero_le _⟩ ?_
              exact jb13 c12
            · skip
              refine lv_aload_n hx hb dX5_happen_92 rfl (lv_at hl 0 rfl) ?_
              refine lv_iload_n hx hb dX5_happen_93 rfl (lv_at hl 2 rfl) ?_
              refine lv_bipush (v := 48) hx hb dX5_happen_94 (by decide) ?_
              refine lv_isub hx hb dX5_happen_96 ?_
              refine rcVi (b := hm) (As := [.int (p1 - 48)]) (rest := []) hSF (kX5_rulersBy l D cI cZ cC hm am om (p1 - 48)) (cwV 1 hts gX5_happen_X5_rulersBy rfl rfl rfl (by decide +kernel) ⟨Nat.le_of_ble_eq_true rfl, Nat.le_of_ble_eq_true rfl⟩) (va_recv hK hP (ci := 5) (q0 := 0) rfl rfl) (hP.sub [0, 1, 2, 3, 4, 5, 6, 7, 8, 9, 10, 11] rfl) hK hN rfl rfl hl.1 (Nat.le_of_ble_eq_true rfl) dX5_happen_97 ⟨Nat.zero_le _, Nat.zero_le _⟩ ?_
              refine lv_goto (tgt := 111) hx hb dX5_happen_100 (by decide) ?_
              exact ja13 c12
          refine lv_istore_n (lv' := [(3, .int (if p0 = 0 then (fX5_rulersBy om (p1 - 48)) else (fX5_sprinkledBy om (p1 - 48)))), (0, .ref hm), (1, .int p0), (2, .int p1)]) hx hb dX5_happen_111 rfl hl (by decide) rfl (fun ls hl => ?_)
          refine lv_aload_n hx hb dX5_happen_112 rfl (lv_at hl 1 rfl) ?_
          refine lv_iload_n hx hb dX5_happen_113 rfl (lv_at hl 0 rfl) ?_
          refine W_itei (P := (if p0 = 0 then (fX5_rulersBy om (p1 - 48)) else (fX5_sprinkledBy om (p1 - 48))) = 0) (a := (om.1 16)) (b := (if p0 = 0 then (fX5_rulersBy om (p1 - 48)) else (fX5_sprinkledBy om (p1 - 48)))) (J := 125) (ls9 := ls) (rest9 := [.ref hm]) (fun ja15 jb15 => ?_) ?_
          · refine lv_if_ne (tgt := 124) hx hb dX5_happen_114 (by decide) (fun c14 => ?_) (fun c14 => ?_)
            · skip
              refine lv_iload_n hx hb dX5_happen_124 rfl (lv_at hl 0 rfl) ?_
              exact jb15 c14
            · skip
              refine lv_aload_n hx hb dX5_happen_117 rfl (lv_at hl 1 rfl) ?_
              refine va_get (D := D) (ci := 5) (v := .int (om.1 16)) (C := RX5) (T := TX5) (N := 24) hx hb hts hi5 hown hK hP 0 rfl rfl 16 (by decide) hf117 (fun _ h9 => h9) rfl dX5_happen_118 ?_
              refine lv_goto (tgt := 125) hx hb dX5_happen_121 (by decide) ?_
              exact ja15 c14
          refine wcVv (b := hm) (As := [.int (if (if p0 = 0 then (fX5_rulersBy om (p1 - 48)) else (fX5_sprinkledBy om (p1 - 48))) = 0 then (om.1 16) else (if p0 = 0 then (fX5_rulersBy om (p1 - 48)) else (fX5_sprinkledBy om (p1 - 48))))]) (rest := []) (wr := []) (ws' := wX5 cI cZ hm am (fX5_rule om (if (if p0 = 0 then (fX5_rulersBy om (p1 - 48)) else (fX5_sprinkledBy om (p1 - 48))) = 0 then (om.1 16) else (if p0 = 0 then (fX5_rulersBy om (p1 - 48)) else (fX5_sprinkledBy om (p1 - 48)))))) hSF (kX5_rule l D cI cZ cC hm am om (if (if p0 = 0 then (fX5_rulersBy om (p1 - 48)) else (fX5_sprinkledBy om (p1 - 48))) = 0 then (om.1 16) else (if p0 = 0 then (fX5_rulersBy om (p1 - 48)) else (fX5_sprinkledBy om (p1 - 48))))) (cwV 1 hts gX5_happen_X5_rule rfl rfl rfl (by decide +kernel) ⟨Nat.le_of_ble_eq_true rfl, Nat.le_of_ble_eq_true rfl⟩) (va_recv hK hP (ci := 5) (q0 := 0) rfl rfl) hP hD hS hA hK hN [0, 1, 2, 3, 4, 5, 6, 7, 8, 9, 10, 11] [] [0, 1, 2, 3, 4, 5, 6, 7, 8, 9, 10, 11] rfl (by decide) rfl (by decide) (by decide) rfl (by decide) rfl rfl hl.1 (Nat.le_of_ble_eq_true rfl) dX5_happen_125 ⟨Nat.zero_le _, Nat.zero_le _⟩ (fun H locs hP hD hS => ?_)
          have e9 : fX5_happen om p0 p1 = (fX5_rule om (if (if p0 = 0 then (fX5_rulersBy om (p1 - 48)) else (fX5_sprinkledBy om (p1 - 48))) = 0 then (om.1 16) else (if p0 = 0 then (fX5_rulersBy om (p1 - 48)) else (fX5_sprinkledBy om (p1 - 48))))) := by
            simp only [fX5_happen, if_pos c1, if_neg c9, if_neg c10, if_neg c11]
          exact W.vret hx hb hr (fun t ht hW => ⟨⟨(fX5_rule om (if (if p0 = 0 then (fX5_rulersBy om (p1 - 48)) else (fX5_sprinkledBy om (p1 - 48))) = 0 then (om.1 16) else (if p0 = 0 then (fX5_rulersBy om (p1 - 48)) else (fX5_sprinkledBy om (p1 - 48))))), rfl, e9.symm, ⟨by rw [ht]; exact hP, hD⟩⟩, hS.F ht⟩) hS.2.2 dX5_happen_128
        · skip
          refine lv_iload_n hx hb dX5_happen_46 rfl (lv_at hl 2 rfl) ?_
          refine lv_bipush (v := 65) hx hb dX5_happen_47 (by decide) ?_
          refine lv_isub hx hb dX5_happen_49 ?_
          refine lv_istore_n (lv' := [(3, .int (p1 - 65)), (0, .ref hm), (1, .int p0), (2, .int p1)]) hx hb dX5_happen_50 rfl hl (by decide) rfl (fun ls hl => ?_)
          refine lv_aload_n hx hb dX5_happen_51 rfl (lv_at hl 1 rfl) ?_
          refine lv_iload_n hx hb dX5_happen_52 rfl (lv_at hl 0 rfl) ?_
          refine rcVi (b := hm) (As := [.int (p1 - 65)]) (rest := []) hSF (kX5_isThere l D cI cZ cC hm am om (p1 - 65)) (cwV 1 hts gX5_happen_X5_isThere rfl rfl rfl (by decide +kernel) ⟨Nat.le_of_ble_eq_true rfl, Nat.le_of_ble_eq_true rfl⟩) (va_recv hK hP (ci := 5) (q0 := 0) rfl rfl) (hP.sub [0, 1, 2, 3, 4, 5, 6, 7, 8, 9, 10, 11] rfl) hK hN rfl rfl hl.1 (Nat.le_of_ble_eq_true rfl) dX5_happen_53 ⟨Nat.zero_le _, Nat.zero_le _⟩ ?_
          refine lv_if_eq (tgt := 85) hx hb dX5_happen_56 (by decide) (fun c16 => ?_) (fun c16 => ?_)
          · skip
            refine lv_goto (tgt := 128) hx hb dX5_happen_85 (by decide) ?_
            have e9 : fX5_happen om p0 p1 = om := by
              simp only [fX5_happen, if_pos c1, if_neg c9, if_neg c10, if_pos c11, if_pos c16]
            exact W.vret hx hb hr (fun t ht hW => ⟨⟨om, rfl, e9.symm, ⟨by rw [ht]; exact hP, hD⟩⟩, hS.F ht⟩) hS.2.2 dX5_happen_128
          · skip
            refine lv_aload_n hx hb dX5_happen_59 rfl (lv_at hl 1 rfl) ?_
            refine lv_dup hx hb dX5_happen_60 rfl ?_
            refine va_get (D := D) (ci := 5) (v := .int (om.1 4)) (C := RX5) (T := TX5) (N := 24) hx hb hts hi5 hown hK hP 0 rfl rfl 4 (by decide) hf69 (fun _ h9 => h9) rfl dX5_happen_61 ?_
            refine lv_iconst (v := 1) hx hb dX5_happen_64 (by decide) ?_
            refine lv_iload_n hx hb dX5_happen_65 rfl (lv_at hl 0 rfl) ?_
            refine lv_ishl hx hb dX5_happen_66 ?_
            refine lv_ior hx hb dX5_happen_67 ?_
            refine va_put (D := D) (ci := 5) (v := .int ((om.1 4) ||| (1 <<< ((p1 - 65) &&& 31)))) (ty := .int) (C := RX5) (T := TX5) (N := 24) hx hb hts hi5 tyX5 tyX5_ok nmX5 hown hK hP hD hS 0 rfl rfl 4 (by decide) hf69 (fun _ h9 => h9) rfl (by decide +kernel) rfl rfl (Nat.le_of_ble_eq_true rfl) dX5_happen_68 (fun H locs hP hD hS => ?_)
            have hP : va_P D vwCl (wX5 cI cZ hm am (us om 4 ((om.1 4) ||| (1 <<< ((p1 - 65) &&& 31))))) H := hP
            have hD : va_D A (wX5 cI cZ hm am (us om 4 ((om.1 4) ||| (1 <<< ((p1 - 65) &&& 31))))) := hD
            refine lv_aload_n hx hb dX5_happen_71 rfl (lv_at hl 1 rfl) ?_
            refine lv_aload_n hx hb dX5_happen_72 rfl (lv_at hl 1 rfl) ?_
            refine va_get (D := D) (ci := 5) (v := .int (om.1 16)) (C := RX5) (T := TX5) (N := 24) hx hb hts hi5 hown hK hP 0 rfl rfl 16 (by decide) hf117 (fun _ h9 => h9) rfl dX5_happen_73 ?_
            refine lv_iconst (v := 1) hx hb dX5_happen_76 (by decide) ?_
            refine lv_iload_n hx hb dX5_happen_77 rfl (lv_at hl 0 rfl) ?_
            refine lv_ishl hx hb dX5_happen_78 ?_
            refine lv_iconst (v := (-1)) hx hb dX5_happen_79 (by decide) ?_
            refine lv_ixor hx hb dX5_happen_80 ?_
            refine lv_iand hx hb dX5_happen_81 ?_
            refine wcVv (b := hm) (As := [.int ((om.1 16) &&& ((1 <<< ((p1 - 65) &&& 31)) ^^^ (-1)))]) (rest := []) (wr := []) (ws' := wX5 cI cZ hm am (fX5_rule (us om 4 ((om.1 4) ||| (1 <<< ((p1 - 65) &&& 31)))) ((om.1 16) &&& ((1 <<< ((p1 - 65) &&& 31)) ^^^ (-1))))) hSF (kX5_rule l D cI cZ cC hm am (us om 4 ((om.1 4) ||| (1 <<< ((p1 - 65) &&& 31)))) ((om.1 16) &&& ((1 <<< ((p1 - 65) &&& 31)) ^^^ (-1)))) (cwV 1 hts gX5_happen_X5_rule rfl rfl rfl (by decide +kernel) ⟨Nat.le_of_ble_eq_true rfl, Nat.le_of_ble_eq_true rfl⟩) (va_recv hK hP (ci := 5) (q0 := 0) rfl rfl) hP hD hS hA hK hN [0, 1, 2, 3, 4, 5, 6, 7, 8, 9, 10, 11] [] [0, 1, 2, 3, 4, 5, 6, 7, 8, 9, 10, 11] rfl (by decide) rfl (by decide) (by decide) rfl (by decide) rfl rfl hl.1 (Nat.le_of_ble_eq_true rfl) dX5_happen_82 ⟨Nat.zero_le _, Nat.zero_le _⟩ (fun H locs hP hD hS => ?_)
            refine lv_goto (tgt := 128) hx hb dX5_happen_85 (by decide) ?_
            have e9 : fX5_happen om p0 p1 = (fX5_rule (us om 4 ((om.1 4) ||| (1 <<< ((p1 - 65) &&& 31)))) ((om.1 16) &&& ((1 <<< ((p1 - 65) &&& 31)) ^^^ (-1)))) := by
              simp only [fX5_happen, if_pos c1, if_neg c9, if_neg c10, if_pos c11, if_neg c16]
            exact W.vret hx hb hr (fun t ht hW => ⟨⟨(fX5_rule (us om 4 ((om.1 4) ||| (1 <<< ((p1 - 65) &&& 31)))) ((om.1 16) &&& ((1 <<< ((p1 - 65) &&& 31)) ^^^ (-1)))), rfl, e9.symm, ⟨by rw [ht]; exact hP, hD⟩⟩, hS.F ht⟩) hS.2.2 dX5_happen_128
      · skip
        refine lv_aload_n hx hb dX5_happen_24 rfl (lv_at hl 0 rfl) ?_
        refine lv_iconst (v := 0) hx hb dX5_happen_25 (by decide) ?_
        refine wcVv (b := hm) (As := [.int 0]) (rest := []) (wr := []) (ws' := wX5 cI cZ hm am (fX5_rule om 0)) hSF (kX5_rule l D cI cZ cC hm am om 0) (cwV 1 hts gX5_happen_X5_rule rfl rfl rfl (by decide +kernel) ⟨Nat.le_of_ble_eq_true rfl, Nat.le_of_ble_eq_true rfl⟩) (va_recv hK hP (ci := 5) (q0 := 0) rfl rfl) hP hD hS hA hK hN [0, 1, 2, 3, 4, 5, 6, 7, 8, 9, 10, 11] [] [0, 1, 2, 3, 4, 5, 6, 7, 8, 9, 10, 11] rfl (by decide) rfl (by decide) (by decide) rfl (by decide) rfl rfl hl.1 (Nat.le_of_ble_eq_true rfl) dX5_happen_26 ⟨Nat.zero_le _, Nat.zero_le _⟩ (fun H locs hP hD hS => ?_)
        refine lv_aload_n hx hb dX5_happen_29 rfl (lv_at hl 0 rfl) ?_
        refine lv_iload_n hx hb dX5_happen_30 rfl (lv_at hl 2 rfl) ?_
        refine lv_bipush (v := 48) hx hb dX5_happen_31 (by decide) ?_
        refine lv_isub hx hb dX5_happen_33 ?_
        refine wcVv (b := hm) (As := [.int (p1 - 48)]) (rest := []) (wr := []) (ws' := wX5 cI cZ hm am (fX5_goYears (fX5_rule om 0) (p1 - 48))) hSF (kX5_goYears l D cI cZ cC hm am (fX5_rule om 0) (p1 - 48)) (cwV 1 hts gX5_happen_X5_goYears rfl rfl rfl (by decide +kernel) ⟨Nat.le_of_ble_eq_true rfl, Nat.le_of_ble_eq_true rfl⟩) (va_recv hK hP (ci := 5) (q0 := 0) rfl rfl) hP hD hS hA hK hN [0, 1, 2, 3, 4, 5, 6, 7, 8, 9, 10, 11] [] [0, 1, 2, 3, 4, 5, 6, 7, 8, 9, 10, 11] rfl (by decide) rfl (by decide) (by decide) rfl (by decide) rfl rfl hl.1 (Nat.le_of_ble_eq_true rfl) dX5_happen_34 ⟨Nat.zero_le _, Nat.zero_le _⟩ (fun H locs hP hD hS => ?_)
        refine lv_goto (tgt := 128) hx hb dX5_happen_37 (by decide) ?_
        have e9 : fX5_happen om p0 p1 = (fX5_goYears (fX5_rule om 0) (p1 - 48)) := by
          simp only [fX5_happen, if_pos c1, if_neg c9, if_pos c10]
        exact W.vret hx hb hr (fun t ht hW => ⟨⟨(fX5_goYears (fX5_rule om 0) (p1 - 48)), rfl, e9.symm, ⟨by rw [ht]; exact hP, hD⟩⟩, hS.F ht⟩) hS.2.2 dX5_happen_128
    · skip
      refine lv_aload_n hx hb dX5_happen_10 rfl (lv_at hl 0 rfl) ?_
      refine lv_iconst (v := 1) hx hb dX5_happen_11 (by decide) ?_
      refine wcVv (b := hm) (As := [.int 1]) (rest := []) (wr := []) (ws' := wX5 cI cZ hm am (fX5_goYears om 1)) hSF (kX5_goYears l D cI cZ cC hm am om 1) (cwV 1 hts gX5_happen_X5_goYears rfl rfl rfl (by decide +kernel) ⟨Nat.le_of_ble_eq_true rfl, Nat.le_of_ble_eq_true rfl⟩) (va_recv hK hP (ci := 5) (q0 := 0) rfl rfl) hP hD hS hA hK hN [0, 1, 2, 3, 4, 5, 6, 7, 8, 9, 10, 11] [] [0, 1, 2, 3, 4, 5, 6, 7, 8, 9, 10, 11] rfl (by decide) rfl (by decide) (by decide) rfl (by decide) rfl rfl hl.1 (Nat.le_of_ble_eq_true rfl) dX5_happen_12 ⟨Nat.zero_le _, Nat.zero_le _⟩ (fun H locs hP hD hS => ?_)
      refine lv_goto (tgt := 128) hx hb dX5_happen_15 (by decide) ?_
      have e9 : fX5_happen om p0 p1 = (fX5_goYears om 1) := by
        simp only [fX5_happen, if_pos c1, if_pos c9]
      exact W.vret hx hb hr (fun t ht hW => ⟨⟨(fX5_goYears om 1), rfl, e9.symm, ⟨by rw [ht]; exact hP, hD⟩⟩, hS.F ht⟩) hS.2.2 dX5_happen_128

set_option maxHeartbeats 4000000 in
set_option maxRecDepth 100000 in
theorem kX5_goParts (l : Launch) (D : va_G) (cI cZ cC : ClassId) (hm : Nat) (am : Nat → Nat) (om : OV) (p0 : Int32) (hn : (om.1 13).toNatClampNeg ≤ 40 ∧ om.1 13 = nI (om.1 13).toNatClampNeg) {sz : Nat} : Met l yX5_goParts wsX5_goParts ({ frames := 7, cells := 0, slots := 0, locals := 161 }) (pW D (tyv cI cZ cC) (wX5 cI cZ hm am om) sz [.ref hm, .int p0]) (va_Qi (fun r (u : OV) => r = (fX5_goParts om p0).1 ∧ u = (fX5_goParts om p0).2) (qW D (fun (u : OV) => wX5 cI cZ hm am u) (va_A (wX5 cI cZ hm am om) sz)) (va_A (wX5 cI cZ hm am om) sz)) 0 0 (va_A (wX5 cI cZ hm am om) sz) := by
  refine Met.ofW (cc := cX5_goParts) (maxL := 6) (ret := (some .int)) (by decide) rfl ?_
  intro p e s m args below meth c s₁ B hml hv
  obtain ⟨rfl, hsz, hP, hK, hN, hD0⟩ := hv
  have hx := B.exec
  have hb := B.bytes
  have hr := B.returns
  have hts := atoms_spec (ws := wsX5_goParts) B.pre
  have hown : s.vm.findClass RX5 = some m.cls := findClass_of_methodNamed B.named
  have hlocks := B.notSynchronized
  subst hsz
  have hD := hD0.self (sz := s.heap.size)
  generalize hAe : va_A (wX5 cI cZ hm am om) s.heap.size = A at hD ⊢
  have hA : ∀ q : Nat, s.heap.size ≤ q → A q := fun q h => by rw [← hAe]; exact Or.inr h
  have hS : va_S A s.heap s.heap [] := va_S.rf
  have hP : va_P D vwCl (wX5 cI cZ hm am om) s.heap := hP
  have hl := lv_entry ([.ref hm, .int p0]) (n := 6) (Nat.le_of_ble_eq_true rfl)
  rw [lg_entry_eq]
  generalize (lg_sl ([.ref hm, .int p0]) ++ List.replicate (6 - (lg_sl ([.ref hm, .int p0])).length) Slot.unset).toArray = ls at hl ⊢
  have hl : lv_has ls 6 [(0, .ref hm), (1, .int p0)] := hl
  have hSF : CallFix p m c cX5_goParts 6 s _ wsX5_goParts RX5 := ⟨hx, hb, hml, hown, hts⟩
  have hi5 : ∀ w ∈ wsX50, w ∈ wsX5_goParts := by decide +kernel
  have hf31 : (Cond.fieldLink RX5 31 "UmbrellaVoteModel" "years" "[I").before _ s = true := hts _ (by decide +kernel)
  have hf114 : (Cond.fieldLink RX5 114 "UmbrellaVoteModel" "reigns" "I").before _ s = true := hts _ (by decide +kernel)
  have hf117 : (Cond.fieldLink RX5 117 "UmbrellaVoteModel" "ruling" "I").before _ s = true := hts _ (by decide +kernel)
  have hf69 : (Cond.fieldLink RX5 69 "UmbrellaVoteModel" "holes" "I").before _ s = true := hts _ (by decide +kernel)
  have hf86 : (Cond.fieldLink RX5 86 "UmbrellaVoteModel" "padMany" "I").before _ s = true := hts _ (by decide +kernel)
  have hf28 : (Cond.fieldLink RX5 28 "UmbrellaVoteModel" "pad" "[I").before _ s = true := hts _ (by decide +kernel)
  refine lv_iconst (v := 0) hx hb dX5_goParts_0 (by decide) ?_
  refine lv_istore_n (lv' := [(2, .int 0), (0, .ref hm), (1, .int p0)]) hx hb dX5_goParts_1 rfl hl (by decide) rfl (fun ls hl => ?_)
  refine W_lpW (9) (fun k9 H9 locs9 ls9 => va_P D vwCl (wX5 cI cZ hm am (fX5_goParts_L2 om k9)) H9 ∧ va_D A (wX5 cI cZ hm am (fX5_goParts_L2 om k9)) ∧ va_S A s.heap H9 locs9 ∧ lv_has ls9 6 [(2, .int (nI k9)), (0, .ref hm), (1, .int p0)]) ⟨hP, hD, hS, lv_sub hl [0, 1, 2] rfl⟩ ?_ ?_
  · intro k1 H locs ls hk1 hI9 ih1
    obtain ⟨hP, hD, hS, hl⟩ := hI9
    generalize hs1 : fX5_goParts_L2 om k1 = y1 at hP hD hl
    obtain ⟨om1, en1⟩ : ∃ z, z = y1 := ⟨_, rfl⟩
    subst en1
    have hP : va_P D vwCl (wX5 cI cZ hm am om1) H := hP
    have hD : va_D A (wX5 cI cZ hm am om1) := hD
    have hl : lv_has ls 6 [(2, .int (nI k1)), (0, .ref hm), (1, .int p0)] := hl
    refine lv_iload_n hx hb dX5_goParts_2 rfl (lv_at hl 0 rfl) ?_
    refine lv_bipush (v := 9) hx hb dX5_goParts_3 (by decide) ?_
    refine lv_icmp_ge (tgt := 21) hx hb dX5_goParts_5 (by decide) (fun c2 => absurd c2 (nI_ge hk1 (by decide))) (fun c2 => ?_)
    refine lv_aload_n hx hb dX5_goParts_8 rfl (lv_at hl 1 rfl) ?_
    refine va_get (D := D) (ci := 5) (v := .ref (am 14)) (C := RX5) (T := TX5) (N := 24) hx hb hts hi5 hown hK hP 0 rfl rfl 14 (by decide) hf31 (fun _ h9 => h9) rfl dX5_goParts_9 ?_
    refine lv_iload_n hx hb dX5_goParts_12 rfl (lv_at hl 0 rfl) ?_
    refine lv_iconst (v := 0) hx hb dX5_goParts_13 (by decide) ?_
    refine va_iast hx hb hK hP hD hS 8 0 rfl rfl (vp_in_nI (Nat.lt_of_lt_of_le hk1 (by decide)) (by decide)) dX5_goParts_14 (fun H locs hP hD hS => ?_)
    have hP : va_P D vwCl (wX5 cI cZ hm am (ua om1 14 (nI k1).toNatClampNeg 0)) H := hP
    have hD : va_D A (wX5 cI cZ hm am (ua om1 14 (nI k1).toNatClampNeg 0)) := hD
    refine lv_iinc (v := ((nI k1) + 1)) (lv' := [(2, .int ((nI k1) + 1)), (0, .ref hm), (1, .int p0)]) hx hb dX5_goParts_15 hl (k := 0) rfl rfl (by decide) rfl (fun ls hl => ?_)
    refine lv_goto (tgt := 2) hx hb dX5_goParts_18 (by decide) ?_
    have e8 : fX5_goParts_L2s k1 om1 = (ua om1 14 (nI k1).toNatClampNeg 0) := by
      rfl
    have e7 : fX5_goParts_L2 om (k1 + 1) = (ua om1 14 (nI k1).toNatClampNeg 0) := by
      show fX5_goParts_L2s k1 (fX5_goParts_L2 om k1) = _
      rw [hs1]; exact e8
    have hl9 : lv_has ls 6 [(2, .int (nI (k1 + 1))), (0, .ref hm), (1, .int p0)] := by
      rw [nI_succ]; exact lv_sub hl [0, 1, 2] rfl
    exact ih1 H locs ls ⟨by rw [e7]; exact hP, by rw [e7]; exact hD, hS, hl9⟩
  intro H locs ls hI9
  obtain ⟨hP, hD, hS, hl⟩ := hI9
  refine lv_iload_n hx hb dX5_goParts_2 rfl (lv_at hl 0 rfl) ?_
  refine lv_bipush (v := 9) hx hb dX5_goParts_3 (by decide) ?_
  refine lv_icmp_ge (tgt := 21) hx hb dX5_goParts_5 (by decide) (fun c3 => ?_) (fun c3 => absurd (nI_le (Nat.le_refl _) (by decide)) c3)
  refine lv_aload_n hx hb dX5_goParts_21 rfl (lv_at hl 1 rfl) ?_
  refine lv_iconst (v := 0) hx hb dX5_goParts_22 (by decide) ?_
  refine va_put (D := D) (ci := 5) (v := .int 0) (ty := .int) (C := RX5) (T := TX5) (N := 24) hx hb hts hi5 tyX5 tyX5_ok nmX5 hown hK hP hD hS 0 rfl rfl 15 (by decide) hf114 (fun _ h9 => h9) rfl (by decide +kernel) rfl rfl (Nat.le_of_ble_eq_true rfl) dX5_goParts_23 (fun H locs hP hD hS => ?_)
  rw [sw_m_m_s15] at hP hD
  have hP : va_P D vwCl (wX5 cI cZ hm am (us (fX5_goParts_L2 om (9)) 15 0)) H := hP
  have hD : va_D A (wX5 cI cZ hm am (us (fX5_goParts_L2 om (9)) 15 0)) := hD
  refine lv_aload_n hx hb dX5_goParts_26 rfl (lv_at hl 1 rfl) ?_
  refine lv_iconst (v := 0) hx hb dX5_goParts_27 (by decide) ?_
  refine va_put (D := D) (ci := 5) (v := .int 0) (ty := .int) (C := RX5) (T := TX5) (N := 24) hx hb hts hi5 tyX5 tyX5_ok nmX5 hown hK hP hD hS 0 rfl rfl 16 (by decide) hf117 (fun _ h9 => h9) rfl (by decide +kernel) rfl rfl (Nat.le_of_ble_eq_true rfl) dX5_goParts_28 (fun H locs hP hD hS => ?_)
  rw [sw_m_m_s16] at hP hD
  have hP : va_P D vwCl (wX5 cI cZ hm am (us (us (fX5_goParts_L2 om (9)) 15 0) 16 0)) H := hP
  have hD : va_D A (wX5 cI cZ hm am (us (us (fX5_goParts_L2 om (9)) 15 0) 16 0)) := hD
  refine lv_aload_n hx hb dX5_goParts_31 rfl (lv_at hl 1 rfl) ?_
  refine va_get (D := D) (ci := 5) (v := .int ((fX5_goParts_L2 om (9)).1 4)) (C := RX5) (T := TX5) (N := 24) hx hb hts hi5 hown hK hP 0 rfl rfl 4 (by decide) hf69 (fun _ h9 => h9) rfl dX5_goParts_32 ?_
  refine lv_istore_n (lv' := [(2, .int ((fX5_goParts_L2 om (9)).1 4)), (0, .ref hm), (1, .int p0)]) hx hb dX5_goParts_35 rfl hl (by decide) rfl (fun ls hl => ?_)
  refine lv_iconst (v := 0) hx hb dX5_goParts_36 (by decide) ?_
  refine lv_istore_n (lv' := [(3, .int 0), (2, .int ((fX5_goParts_L2 om (9)).1 4)), (0, .ref hm), (1, .int p0)]) hx hb dX5_goParts_37 rfl hl (by decide) rfl (fun ls hl => ?_)
  refine lv_iconst (v := 0) hx hb dX5_goParts_38 (by decide) ?_
  refine lv_istore (lv' := [(4, .int 0), (3, .int 0), (2, .int ((fX5_goParts_L2 om (9)).1 4)), (0, .ref hm), (1, .int p0)]) hx hb dX5_goParts_39 hl (by decide) rfl (fun ls hl => ?_)
  refine lv_iconst (v := 0) hx hb dX5_goParts_41 (by decide) ?_
  refine lv_istore (lv' := [(5, .int 0), (4, .int 0), (3, .int 0), (2, .int ((fX5_goParts_L2 om (9)).1 4)), (0, .ref hm), (1, .int p0)]) hx hb dX5_goParts_42 hl (by decide) rfl (fun ls hl => ?_)
  refine W_lpW ((om.1 13).toNatClampNeg) (fun k9 H9 locs9 ls9 => va_P D vwCl (wX5 cI cZ hm am (fX5_goParts_L44 p0 0 0 (us (us (fX5_goParts_L2 om (9)) 15 0) 16 0) k9).2.2) H9 ∧ va_D A (wX5 cI cZ hm am (fX5_goParts_L44 p0 0 0 (us (us (fX5_goParts_L2 om (9)) 15 0) 16 0) k9).2.2) ∧ va_S A s.heap H9 locs9 ∧ lv_has ls9 6 [(5, .int (nI k9)), (4, .int (fX5_goParts_L44 p0 0 0 (us (us (fX5_goParts_L2 om (9)) 15 0) 16 0) k9).1), (3, .int (fX5_goParts_L44 p0 0 0 (us (us (fX5_goParts_L2 om (9)) 15 0) 16 0) k9).2.1), (2, .int ((fX5_goParts_L2 om (9)).1 4)), (0, .ref hm), (1, .int p0)]) ⟨hP, hD, hS, lv_sub hl [0, 1, 2, 3, 4, 5] rfl⟩ ?_ ?_
  · intro k4 H locs ls hk4 hI9 ih4
    obtain ⟨hP, hD, hS, hl⟩ := hI9
    generalize hs4 : fX5_goParts_L44 p0 0 0 (us (us (fX5_goParts_L2 om (9)) 15 0) 16 0) k4 = y4 at hP hD hl
    obtain ⟨x4_4, x3_4, om4⟩ := y4
    try dsimp only at hP hD hl
    have hP : va_P D vwCl (wX5 cI cZ hm am om4) H := hP
    have hD : va_D A (wX5 cI cZ hm am om4) := hD
    have hl : lv_has ls 6 [(5, .int (nI k4)), (4, .int x4_4), (3, .int x3_4), (2, .int ((fX5_goParts_L2 om (9)).1 4)), (0, .ref hm), (1, .int p0)] := hl
    refine lv_iload hx hb dX5_goParts_44 (lv_at hl 0 rfl) ?_
    refine lv_aload_n hx hb dX5_goParts_46 rfl (lv_at hl 4 rfl) ?_
    refine va_get (D := D) (ci := 5) (v := .int (om4.1 13)) (C := RX5) (T := TX5) (N := 24) hx hb hts hi5 hown hK hP 0 rfl rfl 13 (by decide) hf86 (fun _ h9 => h9) rfl dX5_goParts_47 ?_
    refine lv_icmp_ge (tgt := 111) hx hb dX5_goParts_50 (by decide) (fun c5 => absurd c5 (bnd_nle (gp_bnd hs4 hn) hk4 (Nat.lt_of_le_of_lt hn.1 (by decide)))) (fun c5 => ?_)
    refine lv_aload_n hx hb dX5_goParts_53 rfl (lv_at hl 4 rfl) ?_
    refine va_get (D := D) (ci := 5) (v := .ref (am 12)) (C := RX5) (T := TX5) (N := 24) hx hb hts hi5 hown hK hP 0 rfl rfl 12 (by decide) hf28 (fun _ h9 => h9) rfl dX5_goParts_54 ?_
    refine lv_iload hx hb dX5_goParts_57 (lv_at hl 0 rfl) ?_
    refine va_iald (f := (om4.2 12)) hx hb hK hP 7 0 rfl rfl (vp_in_nI (Nat.lt_of_lt_of_le hk4 hn.1) (by decide)) dX5_goParts_59 ?_
    refine lv_iload_n hx hb dX5_goParts_60 rfl (lv_at hl 2 rfl) ?_
    refine rcSi (As := [.int ((om4.2 12) (nI k4).toNatClampNeg), .int x3_4]) (rest := []) hSF (kX5_isOpening l D cI cZ cC ((om4.2 12) (nI k4).toNatClampNeg) x3_4) (va_cwS 2 hts gX5_goParts_X5_isOpening rfl rfl rfl (by decide +kernel) ⟨Nat.le_of_ble_eq_true rfl, Nat.le_of_ble_eq_true rfl⟩) (hP.sub [] rfl) hK hN rfl rfl hl.1 (Nat.le_of_ble_eq_true rfl) dX5_goParts_61 ⟨Nat.zero_le _, Nat.zero_le _⟩ ?_
    refine lv_if_eq (tgt := 78) hx hb dX5_goParts_64 (by decide) (fun c6 => ?_) (fun c6 => ?_)
    · skip
      refine lv_iload_n hx hb dX5_goParts_78 rfl (lv_at hl 5 rfl) ?_
      refine lv_if_lt (tgt := 88) hx hb dX5_goParts_79 (by decide) (fun c7 => ?_) (fun c7 => ?_)
      · skip
        refine lv_aload_n hx hb dX5_goParts_88 rfl (lv_at hl 4 rfl) ?_
        refine lv_iload_n hx hb dX5_goParts_89 rfl (lv_at hl 2 rfl) ?_
        refine lv_aload_n hx hb dX5_goParts_90 rfl (lv_at hl 4 rfl) ?_
        refine va_get (D := D) (ci := 5) (v := .ref (am 12)) (C := RX5) (T := TX5) (N := 24) hx hb hts hi5 hown hK hP 0 rfl rfl 12 (by decide) hf28 (fun _ h9 => h9) rfl dX5_goParts_91 ?_
        refine lv_iload hx hb dX5_goParts_94 (lv_at hl 0 rfl) ?_
        refine va_iald (f := (om4.2 12)) hx hb hK hP 7 0 rfl rfl (vp_in_nI (Nat.lt_of_lt_of_le hk4 hn.1) (by decide)) dX5_goParts_96 ?_
        refine wcVv (b := hm) (As := [.int x3_4, .int ((om4.2 12) (nI k4).toNatClampNeg)]) (rest := []) (wr := []) (ws' := wX5 cI cZ hm am (fX5_happen om4 x3_4 ((om4.2 12) (nI k4).toNatClampNeg))) hSF (kX5_happen l D cI cZ cC hm am om4 x3_4 ((om4.2 12) (nI k4).toNatClampNeg)) (cwV 2 hts gX5_goParts_X5_happen rfl rfl rfl (by decide +kernel) ⟨Nat.le_of_ble_eq_true rfl, Nat.le_of_ble_eq_true rfl⟩) (va_recv hK hP (ci := 5) (q0 := 0) rfl rfl) hP hD hS hA hK hN [0, 1, 2, 3, 4, 5, 6, 7, 8, 9, 10, 11] [] [0, 1, 2, 3, 4, 5, 6, 7, 8, 9, 10, 11] rfl (by decide) rfl (by decide) (by decide) rfl (by decide) rfl rfl hl.1 (Nat.le_of_ble_eq_true rfl) dX5_goParts_97 ⟨Nat.zero_le _, Nat.zero_le _⟩ (fun H locs hP hD hS => ?_)
        refine lv_iinc (v := (x4_4 + 1)) (lv' := [(4, .int (x4_4 + 1)), (5, .int (nI k4)), (3, .int x3_4), (2, .int ((fX5_goParts_L2 om (9)).1 4)), (0, .ref hm), (1, .int p0)]) hx hb dX5_goParts_100 hl (k := 1) rfl rfl (by decide) rfl (fun ls hl => ?_)
        refine lv_iconst (v := 0) hx hb dX5_goParts_103 (by decide) ?_
        refine lv_istore_n (lv' := [(3, .int 0), (4, .int (x4_4 + 1)), (5, .int (nI k4)), (2, .int ((fX5_goParts_L2 om (9)).1 4)), (0, .ref hm), (1, .int p0)]) hx hb dX5_goParts_104 rfl hl (by decide) rfl (fun ls hl => ?_)
        refine lv_iinc (v := ((nI k4) + 1)) (lv' := [(5, .int ((nI k4) + 1)), (3, .int 0), (4, .int (x4_4 + 1)), (2, .int ((fX5_goParts_L2 om (9)).1 4)), (0, .ref hm), (1, .int p0)]) hx hb dX5_goParts_105 hl (k := 2) rfl rfl (by decide) rfl (fun ls hl => ?_)
        refine lv_goto (tgt := 44) hx hb dX5_goParts_108 (by decide) ?_
        have e8 : fX5_goParts_L44s p0 k4 x4_4 x3_4 om4 = ((x4_4 + 1), 0, (fX5_happen om4 x3_4 ((om4.2 12) (nI k4).toNatClampNeg))) := by
          simp only [fX5_goParts_L44s, if_pos c6, if_pos c7]
        have e7 : fX5_goParts_L44 p0 0 0 (us (us (fX5_goParts_L2 om (9)) 15 0) 16 0) (k4 + 1) = ((x4_4 + 1), 0, (fX5_happen om4 x3_4 ((om4.2 12) (nI k4).toNatClampNeg))) := by
          show fX5_goParts_L44s p0 k4 (fX5_goParts_L44 p0 0 0 (us (us (fX5_goParts_L2 om (9)) 15 0) 16 0) k4).1 (fX5_goParts_L44 p0 0 0 (us (us (fX5_goParts_L2 om (9)) 15 0) 16 0) k4).2.1 (fX5_goParts_L44 p0 0 0 (us (us (fX5_goParts_L2 om (9)) 15 0) 16 0) k4).2.2 = _
          rw [hs4]; exact e8
        have hl9 : lv_has ls 6 [(5, .int (nI (k4 + 1))), (4, .int (fX5_goParts_L44 p0 0 0 (us (us (fX5_goParts_L2 om (9)) 15 0) 16 0) (k4 + 1)).1), (3, .int (fX5_goParts_L44 p0 0 0 (us (us (fX5_goParts_L2 om (9)) 15 0) 16 0) (k4 + 1)).2.1), (2, .int ((fX5_goParts_L2 om (9)).1 4)), (0, .ref hm), (1, .int p0)] := by
          rw [nI_succ, e7]; exact lv_sub hl [0, 2, 1, 3, 4, 5] rfl
        exact ih4 H locs ls ⟨by rw [e7]; exact hP, by rw [e7]; exact hD, hS, hl9⟩
      · skip
        refine lv_iload hx hb dX5_goParts_82 (lv_at hl 1 rfl) ?_
        refine lv_iload_n hx hb dX5_goParts_84 rfl (lv_at hl 5 rfl) ?_
        refine lv_icmp_ge (tgt := 100) hx hb dX5_goParts_85 (by decide) (fun c8 => ?_) (fun c8 => ?_)
        · skip
          refine lv_iinc (v := (x4_4 + 1)) (lv' := [(4, .int (x4_4 + 1)), (5, .int (nI k4)), (3, .int x3_4), (2, .int ((fX5_goParts_L2 om (9)).1 4)), (0, .ref hm), (1, .int p0)]) hx hb dX5_goParts_100 hl (k := 1) rfl rfl (by decide) rfl (fun ls hl => ?_)
          refine lv_iconst (v := 0) hx hb dX5_goParts_103 (by decide) ?_
          refine lv_istore_n (lv' := [(3, .int 0), (4, .int (x4_4 + 1)), (5, .int (nI k4)), (2, .int ((fX5_goParts_L2 om (9)).1 4)), (0, .ref hm), (1, .int p0)]) hx hb dX5_goParts_104 rfl hl (by decide) rfl (fun ls hl => ?_)
          refine lv_iinc (v := ((nI k4) + 1)) (lv' := [(5, .int ((nI k4) + 1)), (3, .int 0), (4, .int (x4_4 + 1)), (2, .int ((fX5_goParts_L2 om (9)).1 4)), (0, .ref hm), (1, .int p0)]) hx hb dX5_goParts_105 hl (k := 2) rfl rfl (by decide) rfl (fun ls hl => ?_)
          refine lv_goto (tgt := 44) hx hb dX5_goParts_108 (by decide) ?_
          have e8 : fX5_goParts_L44s p0 k4 x4_4 x3_4 om4 = ((x4_4 + 1), 0, om4) := by
            simp only [fX5_goParts_L44s, if_pos c6, if_neg c7, if_pos c8]
          have e7 : fX5_goParts_L44 p0 0 0 (us (us (fX5_goParts_L2 om (9)) 15 0) 16 0) (k4 + 1) = ((x4_4 + 1), 0, om4) := by
            show fX5_goParts_L44s p0 k4 (fX5_goParts_L44 p0 0 0 (us (us (fX5_goParts_L2 om (9)) 15 0) 16 0) k4).1 (fX5_goParts_L44 p0 0 0 (us (us (fX5_goParts_L2 om (9)) 15 0) 16 0) k4).2.1 (fX5_goParts_L44 p0 0 0 (us (us (fX5_goParts_L2 om (9)) 15 0) 16 0) k4).2.2 = _
            rw [hs4]; exact e8
          have hl9 : lv_has ls 6 [(5, .int (nI (k4 + 1))), (4, .int (fX5_goParts_L44 p0 0 0 (us (us (fX5_goParts_L2 om (9)) 15 0) 16 0) (k4 + 1)).1), (3, .int (fX5_goParts_L44 p0 0 0 (us (us (fX5_goParts_L2 om (9)) 15 0) 16 0) (k4 + 1)).2.1), (2, .int ((fX5_goParts_L2 om (9)).1 4)), (0, .ref hm), (1, .int p0)] := by
            rw [nI_succ, e7]; exact lv_sub hl [0, 2, 1, 3, 4, 5] rfl
          exact ih4 H locs ls ⟨by rw [e7]; exact hP, by rw [e7]; exact hD, hS, hl9⟩
        · skip
          refine lv_aload_n hx hb dX5_goParts_88 rfl (lv_at hl 4 rfl) ?_
          refine lv_iload_n hx hb dX5_goParts_89 rfl (lv_at hl 2 rfl) ?_
          refine lv_aload_n hx hb dX5_goParts_90 rfl (lv_at hl 4 rfl) ?_
          refine va_get (D := D) (ci := 5) (v := .ref (am 12)) (C := RX5) (T := TX5) (N := 24) hx hb hts hi5 hown hK hP 0 rfl rfl 12 (by decide) hf28 (fun _ h9 => h9) rfl dX5_goParts_91 ?_
          refine lv_iload hx hb dX5_goParts_94 (lv_at hl 0 rfl) ?_
          refine va_iald (f := (om4.2 12)) hx hb hK hP 7 0 rfl rfl (vp_in_nI (Nat.lt_of_lt_of_le hk4 hn.1) (by decide)) dX5_goParts_96 ?_
          refine wcVv (b := hm) (As := [.int x3_4, .int ((om4.2 12) (nI k4).toNatClampNeg)]) (rest := []) (wr := []) (ws' := wX5 cI cZ hm am (fX5_happen om4 x3_4 ((om4.2 12) (nI k4).toNatClampNeg))) hSF (kX5_happen l D cI cZ cC hm am om4 x3_4 ((om4.2 12) (nI k4).toNatClampNeg)) (cwV 2 hts gX5_goParts_X5_happen rfl rfl rfl (by decide +kernel) ⟨Nat.le_of_ble_eq_true rfl, Nat.le_of_ble_eq_true rfl⟩) (va_recv hK hP (ci := 5) (q0 := 0) rfl rfl) hP hD hS hA hK hN [0, 1, 2, 3, 4, 5, 6, 7, 8, 9, 10, 11] [] [0, 1, 2, 3, 4, 5, 6, 7, 8, 9, 10, 11] rfl (by decide) rfl (by decide) (by decide) rfl (by decide) rfl rfl hl.1 (Nat.le_of_ble_eq_true rfl) dX5_goParts_97 ⟨Nat.zero_le _, Nat.zero_le _⟩ (fun H locs hP hD hS => ?_)
          refine lv_iinc (v := (x4_4 + 1)) (lv' := [(4, .int (x4_4 + 1)), (5, .int (nI k4)), (3, .int x3_4), (2, .int ((fX5_goParts_L2 om (9)).1 4)), (0, .ref hm), (1, .int p0)]) hx hb dX5_goParts_100 hl (k := 1) rfl rfl (by decide) rfl (fun ls hl => ?_)
          refine lv_iconst (v := 0) hx hb dX5_goParts_103 (by decide) ?_
          refine lv_istore_n (lv' := [(3, .int 0), (4, .int (x4_4 + 1)), (5, .int (nI k4)), (2, .int ((fX5_goParts_L2 om (9)).1 4)), (0, .ref hm), (1, .int p0)]) hx hb dX5_goParts_104 rfl hl (by decide) rfl (fun ls hl => ?_)
          refine lv_iinc (v := ((nI k4) + 1)) (lv' := [(5, .int ((nI k4) + 1)), (3, .int 0), (4, .int (x4_4 + 1)), (2, .int ((fX5_goParts_L2 om (9)).1 4)), (0, .ref hm), (1, .int p0)]) hx hb dX5_goParts_105 hl (k := 2) rfl rfl (by decide) rfl (fun ls hl => ?_)
          refine lv_goto (tgt := 44) hx hb dX5_goParts_108 (by decide) ?_
          have e8 : fX5_goParts_L44s p0 k4 x4_4 x3_4 om4 = ((x4_4 + 1), 0, (fX5_happen om4 x3_4 ((om4.2 12) (nI k4).toNatClampNeg))) := by
            simp only [fX5_goParts_L44s, if_pos c6, if_neg c7, if_neg c8]
          have e7 : fX5_goParts_L44 p0 0 0 (us (us (fX5_goParts_L2 om (9)) 15 0) 16 0) (k4 + 1) = ((x4_4 + 1), 0, (fX5_happen om4 x3_4 ((om4.2 12) (nI k4).toNatClampNeg))) := by
            show fX5_goParts_L44s p0 k4 (fX5_goParts_L44 p0 0 0 (us (us (fX5_goParts_L2 om (9)) 15 0) 16 0) k4).1 (fX5_goParts_L44 p0 0 0 (us (us (fX5_goParts_L2 om (9)) 15 0) 16 0) k4).2.1 (fX5_goParts_L44 p0 0 0 (us (us (fX5_goParts_L2 om (9)) 15 0) 16 0) k4).2.2 = _
            rw [hs4]; exact e8
          have hl9 : lv_has ls 6 [(5, .int (nI (k4 + 1))), (4, .int (fX5_goParts_L44 p0 0 0 (us (us (fX5_goParts_L2 om (9)) 15 0) 16 0) (k4 + 1)).1), (3, .int (fX5_goParts_L44 p0 0 0 (us (us (fX5_goParts_L2 om (9)) 15 0) 16 0) (k4 + 1)).2.1), (2, .int ((fX5_goParts_L2 om (9)).1 4)), (0, .ref hm), (1, .int p0)] := by
            rw [nI_succ, e7]; exact lv_sub hl [0, 2, 1, 3, 4, 5] rfl
          exact ih4 H locs ls ⟨by rw [e7]; exact hP, by rw [e7]; exact hD, hS, hl9⟩
    · skip
      refine lv_aload_n hx hb dX5_goParts_67 rfl (lv_at hl 4 rfl) ?_
      refine va_get (D := D) (ci := 5) (v := .ref (am 12)) (C := RX5) (T := TX5) (N := 24) hx hb hts hi5 hown hK hP 0 rfl rfl 12 (by decide) hf28 (fun _ h9 => h9) rfl dX5_goParts_68 ?_
      refine lv_iload hx hb dX5_goParts_71 (lv_at hl 0 rfl) ?_
      refine va_iald (f := (om4.2 12)) hx hb hK hP 7 0 rfl rfl (vp_in_nI (Nat.lt_of_lt_of_le hk4 hn.1) (by decide)) dX5_goParts_73 ?_
      refine lv_istore_n (lv' := [(3, .int ((om4.2 12) (nI k4).toNatClampNeg)), (5, .int (nI k4)), (4, .int x4_4), (2, .int ((fX5_goParts_L2 om (9)).1 4)), (0, .ref hm), (1, .int p0)]) hx hb dX5_goParts_74 rfl hl (by decide) rfl (fun ls hl => ?_)
      refine lv_goto (tgt := 105) hx hb dX5_goParts_75 (by decide) ?_
      refine lv_iinc (v := ((nI k4) + 1)) (lv' := [(5, .int ((nI k4) + 1)), (3, .int ((om4.2 12) (nI k4).toNatClampNeg)), (4, .int x4_4), (2, .int ((fX5_goParts_L2 om (9)).1 4)), (0, .ref hm), (1, .int p0)]) hx hb dX5_goParts_105 hl (k := 1) rfl rfl (by decide) rfl (fun ls hl => ?_)
      refine lv_goto (tgt := 44) hx hb dX5_goParts_108 (by decide) ?_
      have e8 : fX5_goParts_L44s p0 k4 x4_4 x3_4 om4 = (x4_4, ((om4.2 12) (nI k4).toNatClampNeg), om4) := by
        simp only [fX5_goParts_L44s, if_neg c6]
      have e7 : fX5_goParts_L44 p0 0 0 (us (us (fX5_goParts_L2 om (9)) 15 0) 16 0) (k4 + 1) = (x4_4, ((om4.2 12) (nI k4).toNatClampNeg), om4) := by
        show fX5_goParts_L44s p0 k4 (fX5_goParts_L44 p0 0 0 (us (us (fX5_goParts_L2 om (9)) 15 0) 16 0) k4).1 (fX5_goParts_L44 p0 0 0 (us (us (fX5_goParts_L2 om (9)) 15 0) 16 0) k4).2.1 (fX5_goParts_L44 p0 0 0 (us (us (fX5_goParts_L2 om (9)) 15 0) 16 0) k4).2.2 = _
        rw [hs4]; exact e8
      have hl9 : lv_has ls 6 [(5, .int (nI (k4 + 1))), (4, .int (fX5_goParts_L44 p0 0 0 (us (us (fX5_goParts_L2 om (9)) 15 0) 16 0) (k4 + 1)).1), (3, .int (fX5_goParts_L44 p0 0 0 (us (us (fX5_goParts_L2 om (9)) 15 0) 16 0) (k4 + 1)).2.1), (2, .int ((fX5_goParts_L2 om (9)).1 4)), (0, .ref hm), (1, .int p0)] := by
        rw [nI_succ, e7]; exact lv_sub hl [0, 2, 1, 3, 4, 5] rfl
      exact ih4 H locs ls ⟨by rw [e7]; exact hP, by rw [e7]; exact hD, hS, hl9⟩
  intro H locs ls hI9
  obtain ⟨hP, hD, hS, hl⟩ := hI9
  refine lv_iload hx hb dX5_goParts_44 (lv_at hl 0 rfl) ?_
  refine lv_aload_n hx hb dX5_goParts_46 rfl (lv_at hl 4 rfl) ?_
  refine va_get (D := D) (ci := 5) (v := .int ((fX5_goParts_L44 p0 0 0 (us (us (fX5_goParts_L2 om (9)) 15 0) 16 0) ((om.1 13).toNatClampNeg)).2.2.1 13)) (C := RX5) (T := TX5) (N := 24) hx hb hts hi5 hown hK hP 0 rfl rfl 13 (by decide) hf86 (fun _ h9 => h9) rfl dX5_goParts_47 ?_
  refine lv_icmp_ge (tgt := 111) hx hb dX5_goParts_50 (by decide) (fun c9 => ?_) (fun c9 => absurd (bnd_le (gp_bnd rfl hn)) c9)
  refine lv_aload_n hx hb dX5_goParts_111 rfl (lv_at hl 4 rfl) ?_
  refine lv_iload_n hx hb dX5_goParts_112 rfl (lv_at hl 3 rfl) ?_
  refine va_put (D := D) (ci := 5) (v := .int ((fX5_goParts_L2 om (9)).1 4)) (ty := .int) (C := RX5) (T := TX5) (N := 24) hx hb hts hi5 tyX5 tyX5_ok nmX5 hown hK hP hD hS 0 rfl rfl 4 (by decide) hf69 (fun _ h9 => h9) rfl (by decide +kernel) rfl rfl (Nat.le_of_ble_eq_true rfl) dX5_goParts_113 (fun H locs hP hD hS => ?_)
  rw [sw_m_m_s4] at hP hD
  have hP : va_P D vwCl (wX5 cI cZ hm am (us (fX5_goParts_L44 p0 0 0 (us (us (fX5_goParts_L2 om (9)) 15 0) 16 0) ((om.1 13).toNatClampNeg)).2.2 4 ((fX5_goParts_L2 om (9)).1 4))) H := hP
  have hD : va_D A (wX5 cI cZ hm am (us (fX5_goParts_L44 p0 0 0 (us (us (fX5_goParts_L2 om (9)) 15 0) 16 0) ((om.1 13).toNatClampNeg)).2.2 4 ((fX5_goParts_L2 om (9)).1 4))) := hD
  refine lv_iload hx hb dX5_goParts_116 (lv_at hl 1 rfl) ?_
  have e9 : fX5_goParts om p0 = ((fX5_goParts_L44 p0 0 0 (us (us (fX5_goParts_L2 om (9)) 15 0) 16 0) ((om.1 13).toNatClampNeg)).1, (us (fX5_goParts_L44 p0 0 0 (us (us (fX5_goParts_L2 om (9)) 15 0) 16 0) ((om.1 13).toNatClampNeg)).2.2 4 ((fX5_goParts_L2 om (9)).1 4))) := by
    rfl
  exact W.iret hx hb hr (fun t ht hW => ⟨⟨_, (us (fX5_goParts_L44 p0 0 0 (us (us (fX5_goParts_L2 om (9)) 15 0) 16 0) ((om.1 13).toNatClampNeg)).2.2 4 ((fX5_goParts_L2 om (9)).1 4)), rfl, ⟨by rw [e9], by rw [e9]⟩, ⟨by rw [ht]; exact hP, hD⟩⟩, hS.F ht⟩) hS.2.2 dX5_goParts_118

set_option maxHeartbeats 4000000 in
set_option maxRecDepth 100000 in
theorem kX5_reign (l : Launch) (D : va_G) (cI cZ cC : ClassId) (hm : Nat) (am : Nat → Nat) (om : OV) (p0 : Int32) (hn : (om.1 13).toNatClampNeg ≤ 40 ∧ om.1 13 = nI (om.1 13).toNatClampNeg) {sz : Nat} : Met l yX5_reign wsX5_reign ({ frames := 8, cells := 0, slots := 0, locals := 186 }) (pW D (tyv cI cZ cC) (wX5 cI cZ hm am om) sz [.ref hm, .int p0]) (va_Qi (fun r (u : OV) => r = (fX5_reign om p0).1 ∧ u = (fX5_reign om p0).2) (qW D (fun (u : OV) => wX5 cI cZ hm am u) (va_A (wX5 cI cZ hm am om) sz)) (va_A (wX5 cI cZ hm am om) sz)) 0 0 (va_A (wX5 cI cZ hm am om) sz) := by
  refine Met.ofW (cc := cX5_reign) (maxL := 3) (ret := (some .int)) (by decide) rfl ?_
  intro p e s m args below meth c s₁ B hml hv
  obtain ⟨rfl, hsz, hP, hK, hN, hD0⟩ := hv
  have hx := B.exec
  have hb := B.bytes
  have hr := B.returns
  have hts := atoms_spec (ws := wsX5_reign) B.pre
  have hown : s.vm.findClass RX5 = some m.cls := findClass_of_methodNamed B.named
  have hlocks := B.notSynchronized
  subst hsz
  have hD := hD0.self (sz := s.heap.size)
  generalize hAe : va_A (wX5 cI cZ hm am om) s.heap.size = A at hD ⊢
  have hA : ∀ q : Nat, s.heap.size ≤ q → A q := fun q h => by rw [← hAe]; exact Or.inr h
  have hS : va_S A s.heap s.heap [] := va_S.rf
  have hP : va_P D vwCl (wX5 cI cZ hm am om) s.heap := hP
  have hl := lv_entry ([.ref hm, .int p0]) (n := 3) (Nat.le_of_ble_eq_true rfl)
  rw [lg_entry_eq]
  generalize (lg_sl ([.ref hm, .int p0]) ++ List.replicate (3 - (lg_sl ([.ref hm, .int p0])).length) Slot.unset).toArray = ls at hl ⊢
  have hl : lv_has ls 3 [(0, .ref hm), (1, .int p0)] := hl
  have hSF : CallFix p m c cX5_reign 3 s _ wsX5_reign RX5 := ⟨hx, hb, hml, hown, hts⟩
  have hi5 : ∀ w ∈ wsX50, w ∈ wsX5_reign := by decide +kernel
  have hf117 : (Cond.fieldLink RX5 117 "UmbrellaVoteModel" "ruling" "I").before _ s = true := hts _ (by decide +kernel)
  refine lv_aload_n hx hb dX5_reign_0 rfl (lv_at hl 0 rfl) ?_
  refine rcVi (b := hm) (As := []) (rest := []) hSF (kX5_fault l D cI cZ cC hm am om hn) (cwV 0 hts gX5_reign_X5_fault rfl rfl rfl (by decide +kernel) ⟨Nat.le_of_ble_eq_true rfl, Nat.le_of_ble_eq_true rfl⟩) (va_recv hK hP (ci := 5) (q0 := 0) rfl rfl) (hP.sub [0, 1, 2, 3, 4, 5, 6, 7, 8, 9, 10, 11] rfl) hK hN rfl rfl hl.1 (Nat.le_of_ble_eq_true rfl) dX5_reign_1 ⟨Nat.zero_le _, Nat.zero_le _⟩ ?_
  refine lv_if_lt (tgt := 10) hx hb dX5_reign_4 (by decide) (fun c1 => ?_) (fun c1 => ?_)
  · skip
    refine lv_aload_n hx hb dX5_reign_10 rfl (lv_at hl 0 rfl) ?_
    refine lv_iload_n hx hb dX5_reign_11 rfl (lv_at hl 1 rfl) ?_
    refine wcVi (b := hm) (As := [.int p0]) (rest := []) (wr := []) (ws' := wX5 cI cZ hm am (fX5_goParts om p0).2) hSF (kX5_goParts l D cI cZ cC hm am om p0 hn) (cwV 1 hts gX5_reign_X5_goParts rfl rfl rfl (by decide +kernel) ⟨Nat.le_of_ble_eq_true rfl, Nat.le_of_ble_eq_true rfl⟩) (va_recv hK hP (ci := 5) (q0 := 0) rfl rfl) hP hD hS hA hK hN [0, 1, 2, 3, 4, 5, 6, 7, 8, 9, 10, 11] [] [0, 1, 2, 3, 4, 5, 6, 7, 8, 9, 10, 11] rfl (by decide) rfl (by decide) (by decide) rfl (by decide) rfl rfl hl.1 (Nat.le_of_ble_eq_true rfl) dX5_reign_12 ⟨Nat.zero_le _, Nat.zero_le _⟩ (fun H locs hP hD hS => ?_)
    refine lv_istore_n (lv' := [(2, .int (fX5_goParts om p0).1), (0, .ref hm), (1, .int p0)]) hx hb dX5_reign_15 rfl hl (by decide) rfl (fun ls hl => ?_)
    refine lv_iload_n hx hb dX5_reign_16 rfl (lv_at hl 2 rfl) ?_
    refine lv_i2l hx hb dX5_reign_17 rfl ?_
    refine lv_ldc2 (v := (-1)) hx hb hown (hts (.constantLong RX5 141 (-1)) (by decide +kernel)) dX5_reign_18 ?_
    refine lv_iload_n hx hb dX5_reign_21 rfl (lv_at hl 0 rfl) ?_
    refine lv_i2l hx hb dX5_reign_22 rfl ?_
    refine rcSi (As := [.long p0.toInt64, .long (-1), .long (fX5_goParts om p0).1.toInt64]) (rest := []) hSF (kX5_in l D cI cZ cC p0.toInt64 (-1) ((fX5_goParts om p0).1.toInt64)) (va_cwS 3 hts gX5_reign_X5_in rfl rfl rfl (by decide +kernel) ⟨Nat.le_of_ble_eq_true rfl, Nat.le_of_ble_eq_true rfl⟩) (hP.sub [] rfl) hK hN rfl rfl hl.1 (Nat.le_of_ble_eq_true rfl) dX5_reign_23 ⟨Nat.zero_le _, Nat.zero_le _⟩ ?_
    refine lv_if_ne (tgt := 32) hx hb dX5_reign_26 (by decide) (fun c2 => ?_) (fun c2 => ?_)
    · skip
      refine lv_aload_n hx hb dX5_reign_32 rfl (lv_at hl 1 rfl) ?_
      refine va_get (D := D) (ci := 5) (v := .int ((fX5_goParts om p0).2.1 16)) (C := RX5) (T := TX5) (N := 24) hx hb hts hi5 hown hK hP 0 rfl rfl 16 (by decide) hf117 (fun _ h9 => h9) rfl dX5_reign_33 ?_
      refine W_itei (P := ((fX5_goParts om p0).2.1 16) = 0) (a := (-6)) (b := ((fX5_goParts om p0).2.1 16)) (J := 48) (ls9 := ls) (rest9 := []) (fun ja4 jb4 => ?_) ?_
      · refine lv_if_ne (tgt := 44) hx hb dX5_reign_36 (by decide) (fun c3 => ?_) (fun c3 => ?_)
        · skip
          refine lv_aload_n hx hb dX5_reign_44 rfl (lv_at hl 1 rfl) ?_
          refine va_get (D := D) (ci := 5) (v := .int ((fX5_goParts om p0).2.1 16)) (C := RX5) (T := TX5) (N := 24) hx hb hts hi5 hown hK hP 0 rfl rfl 16 (by decide) hf117 (fun _ h9 => h9) rfl dX5_reign_45 ?_
          exact jb4 c3
        · skip
          refine lv_bipush (v := (-6)) hx hb dX5_reign_39 (by decide) ?_
          refine lv_goto (tgt := 48) hx hb dX5_reign_41 (by decide) ?_
          exact ja4 c3
      have e9 : fX5_reign om p0 = ((if ((fX5_goParts om p0).2.1 16) = 0 then ((-6) : Int32) else ((fX5_goParts om p0).2.1 16)), (fX5_goParts om p0).2) := by
        simp only [fX5_reign, if_pos c1, if_neg c2]
      exact W.iret hx hb hr (fun t ht hW => ⟨⟨_, (fX5_goParts om p0).2, rfl, ⟨by rw [e9], by rw [e9]⟩, ⟨by rw [ht]; exact hP, hD⟩⟩, hS.F ht⟩) hS.2.2 dX5_reign_48
    · skip
      refine lv_bipush (v := (-2)) hx hb dX5_reign_29 (by decide) ?_
      have e9 : fX5_reign om p0 = (((-2) : Int32), (fX5_goParts om p0).2) := by
        simp only [fX5_reign, if_pos c1, if_pos c2]
      exact W.iret hx hb hr (fun t ht hW => ⟨⟨_, (fX5_goParts om p0).2, rfl, ⟨by rw [e9], by rw [e9]⟩, ⟨by rw [ht]; exact hP, hD⟩⟩, hS.F ht⟩) hS.2.2 dX5_reign_31
  · skip
    refine lv_bipush (v := (-5)) hx hb dX5_reign_7 (by decide) ?_
    have e9 : fX5_reign om p0 = (((-5) : Int32), om) := by
      simp only [fX5_reign, if_neg c1]
    exact W.iret hx hb hr (fun t ht hW => ⟨⟨_, om, rfl, ⟨by rw [e9], by rw [e9]⟩, ⟨by rw [ht]; exact hP, hD⟩⟩, hS.F ht⟩) hS.2.2 dX5_reign_9

set_option maxHeartbeats 4000000 in
set_option maxRecDepth 100000 in
theorem kX5_years (l : Launch) (D : va_G) (cI cZ cC : ClassId) (hm : Nat) (am : Nat → Nat) (om : OV) (p0 : Int32) (hn : (om.1 13).toNatClampNeg ≤ 40 ∧ om.1 13 = nI (om.1 13).toNatClampNeg) {sz : Nat} : Met l yX5_years wsX5_years ({ frames := 8, cells := 0, slots := 0, locals := 186 }) (pW D (tyv cI cZ cC) (wX5 cI cZ hm am om) sz [.ref hm, .int p0]) (va_Qi (fun r (u : OV) => r = (fX5_years om p0).1 ∧ u = (fX5_years om p0).2) (qW D (fun (u : OV) => wX5 cI cZ hm am u) (va_A (wX5 cI cZ hm am om) sz)) (va_A (wX5 cI cZ hm am om) sz)) 0 0 (va_A (wX5 cI cZ hm am om) sz) := by
  refine Met.ofW (cc := cX5_years) (maxL := 2) (ret := (some .int)) (by decide) rfl ?_
  intro p e s m args below meth c s₁ B hml hv
  obtain ⟨rfl, hsz, hP, hK, hN, hD0⟩ := hv
  have hx := B.exec
  have hb := B.bytes
  have hr := B.returns
  have hts := atoms_spec (ws := wsX5_years) B.pre
  have hown : s.vm.findClass RX5 = some m.cls := findClass_of_methodNamed B.named
  have hlocks := B.notSynchronized
  subst hsz
  have hD := hD0.self (sz := s.heap.size)
  generalize hAe : va_A (wX5 cI cZ hm am om) s.heap.size = A at hD ⊢
  have hA : ∀ q : Nat, s.heap.size ≤ q → A q := fun q h => by rw [← hAe]; exact Or.inr h
  have hS : va_S A s.heap s.heap [] := va_S.rf
  have hP : va_P D vwCl (wX5 cI cZ hm am om) s.heap := hP
  have hl := lv_entry ([.ref hm, .int p0]) (n := 2) (Nat.le_of_ble_eq_true rfl)
  rw [lg_entry_eq]
  generalize (lg_sl ([.ref hm, .int p0]) ++ List.replicate (2 - (lg_sl ([.ref hm, .int p0])).length) Slot.unset).toArray = ls at hl ⊢
  have hl : lv_has ls 2 [(0, .ref hm), (1, .int p0)] := hl
  have hSF : CallFix p m c cX5_years 2 s _ wsX5_years RX5 := ⟨hx, hb, hml, hown, hts⟩
  have hi5 : ∀ w ∈ wsX50, w ∈ wsX5_years := by decide +kernel
  have hf31 : (Cond.fieldLink RX5 31 "UmbrellaVoteModel" "years" "[I").before _ s = true := hts _ (by decide +kernel)
  have hf114 : (Cond.fieldLink RX5 114 "UmbrellaVoteModel" "reigns" "I").before _ s = true := hts _ (by decide +kernel)
  refine lv_aload_n hx hb dX5_years_0 rfl (lv_at hl 0 rfl) ?_
  refine rcVi (b := hm) (As := []) (rest := []) hSF (kX5_fault l D cI cZ cC hm am om hn) (cwV 0 hts gX5_years_X5_fault rfl rfl rfl (by decide +kernel) ⟨Nat.le_of_ble_eq_true rfl, Nat.le_of_ble_eq_true rfl⟩) (va_recv hK hP (ci := 5) (q0 := 0) rfl rfl) (hP.sub [0, 1, 2, 3, 4, 5, 6, 7, 8, 9, 10, 11] rfl) hK hN rfl rfl hl.1 (Nat.le_of_ble_eq_true rfl) dX5_years_1 ⟨Nat.zero_le _, Nat.zero_le _⟩ ?_
  refine lv_if_lt (tgt := 10) hx hb dX5_years_4 (by decide) (fun c1 => ?_) (fun c1 => ?_)
  · skip
    refine lv_iload_n hx hb dX5_years_10 rfl (lv_at hl 1 rfl) ?_
    refine lv_i2l hx hb dX5_years_11 rfl ?_
    refine lv_lconst (v := 0) hx hb dX5_years_12 (by decide) ?_
    refine lv_ldc2 (v := 9) hx hb hown (hts (.constantLong RX5 57 9) (by decide +kernel)) dX5_years_13 ?_
    refine rcSi (As := [.long p0.toInt64, .long 0, .long 9]) (rest := []) hSF (kX5_in l D cI cZ cC p0.toInt64 0 9) (va_cwS 3 hts gX5_years_X5_in rfl rfl rfl (by decide +kernel) ⟨Nat.le_of_ble_eq_true rfl, Nat.le_of_ble_eq_true rfl⟩) (hP.sub [] rfl) hK hN rfl rfl hl.1 (Nat.le_of_ble_eq_true rfl) dX5_years_16 ⟨Nat.zero_le _, Nat.zero_le _⟩ ?_
    refine lv_if_ne (tgt := 25) hx hb dX5_years_19 (by decide) (fun c2 => ?_) (fun c2 => ?_)
    · skip
      refine lv_aload_n hx hb dX5_years_25 rfl (lv_at hl 0 rfl) ?_
      refine lv_iconst (v := (-1)) hx hb dX5_years_26 (by decide) ?_
      refine wcVi (b := hm) (As := [.int (-1)]) (rest := []) (wr := []) (ws' := wX5 cI cZ hm am (fX5_goParts om (-1)).2) hSF (kX5_goParts l D cI cZ cC hm am om (-1) hn) (cwV 1 hts gX5_years_X5_goParts rfl rfl rfl (by decide +kernel) ⟨Nat.le_of_ble_eq_true rfl, Nat.le_of_ble_eq_true rfl⟩) (va_recv hK hP (ci := 5) (q0 := 0) rfl rfl) hP hD hS hA hK hN [0, 1, 2, 3, 4, 5, 6, 7, 8, 9, 10, 11] [] [0, 1, 2, 3, 4, 5, 6, 7, 8, 9, 10, 11] rfl (by decide) rfl (by decide) (by decide) rfl (by decide) rfl rfl hl.1 (Nat.le_of_ble_eq_true rfl) dX5_years_27 ⟨Nat.zero_le _, Nat.zero_le _⟩ (fun H locs hP hD hS => ?_)
      refine lv_pop hx hb dX5_years_30 rfl ?_
      refine lv_iload_n hx hb dX5_years_31 rfl (lv_at hl 1 rfl) ?_
      refine lv_bipush (v := 9) hx hb dX5_years_32 (by decide) ?_
      refine W_itei (P := p0 = 9) (a := ((fX5_goParts om (-1)).2.1 15)) (b := (((fX5_goParts om (-1)).2.2 14) p0.toNatClampNeg)) (J := 50) (ls9 := ls) (rest9 := []) (fun ja4 jb4 => ?_) ?_
      · refine lv_icmp_ne (tgt := 44) hx hb dX5_years_34 (by decide) (fun c3 => ?_) (fun c3 => ?_)
        · skip
          refine lv_aload_n hx hb dX5_years_44 rfl (lv_at hl 0 rfl) ?_
          refine va_get (D := D) (ci := 5) (v := .ref (am 14)) (C := RX5) (T := TX5) (N := 24) hx hb hts hi5 hown hK hP 0 rfl rfl 14 (by decide) hf31 (fun _ h9 => h9) rfl dX5_years_45 ?_
          refine lv_iload_n hx hb dX5_years_48 rfl (lv_at hl 1 rfl) ?_
          refine va_iald (f := ((fX5_goParts om (-1)).2.2 14)) hx hb hK hP 8 0 rfl rfl (yr_in (by with_reducible assumption) (by with_reducible assumption)) dX5_years_49 ?_
          exact jb4 c3
        · skip
          refine lv_aload_n hx hb dX5_years_37 rfl (lv_at hl 0 rfl) ?_
          refine va_get (D := D) (ci := 5) (v := .int ((fX5_goParts om (-1)).2.1 15)) (C := RX5) (T := TX5) (N := 24) hx hb hts hi5 hown hK hP 0 rfl rfl 15 (by decide) hf114 (fun _ h9 => h9) rfl dX5_years_38 ?_
          refine lv_goto (tgt := 50) hx hb dX5_years_41 (by decide) ?_
          exact ja4 c3
      have e9 : fX5_years om p0 = ((if p0 = 9 then ((fX5_goParts om (-1)).2.1 15) else (((fX5_goParts om (-1)).2.2 14) p0.toNatClampNeg)), (fX5_goParts om (-1)).2) := by
        simp only [fX5_years, if_pos c1, if_neg c2]
      exact W.iret hx hb hr (fun t ht hW => ⟨⟨_, (fX5_goParts om (-1)).2, rfl, ⟨by rw [e9], by rw [e9]⟩, ⟨by rw [ht]; exact hP, hD⟩⟩, hS.F ht⟩) hS.2.2 dX5_years_50
    · skip
      refine lv_bipush (v := (-2)) hx hb dX5_years_22 (by decide) ?_
      have e9 : fX5_years om p0 = (((-2) : Int32), om) := by
        simp only [fX5_years, if_pos c1, if_pos c2]
      exact W.iret hx hb hr (fun t ht hW => ⟨⟨_, om, rfl, ⟨by rw [e9], by rw [e9]⟩, ⟨by rw [ht]; exact hP, hD⟩⟩, hS.F ht⟩) hS.2.2 dX5_years_24
  · skip
    refine lv_bipush (v := (-5)) hx hb dX5_years_7 (by decide) ?_
    have e9 : fX5_years om p0 = (((-5) : Int32), om) := by
      simp only [fX5_years, if_neg c1]
    exact W.iret hx hb hr (fun t ht hW => ⟨⟨_, om, rfl, ⟨by rw [e9], by rw [e9]⟩, ⟨by rw [ht]; exact hP, hD⟩⟩, hS.F ht⟩) hS.2.2 dX5_years_9

