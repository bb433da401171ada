set_option maxHeartbeats 4000000 in
set_option maxRecDepth 100000 in
theorem kX4_stand (l : Launch) (D : va_G) (cI cZ cC : ClassId) (hq hu hi hg hy hw : Nat) (hc : Nat) (ac : Nat → Nat) (oc : OV) (p0 : Int32) (p1 : Int32) (p2 : Int32) (p3 : Int32) (p4 : Int32)  {sz : Nat} : Met l yX4_stand wsX4_stand ({ frames := 2, cells := 0, slots := 0, locals := 45 }) (pW D (tyv cI cZ cC) (wX4 hq hc hu hi hg hy hw ++ wX0 cI hc ac oc) sz [.ref hq, .int p0, .int p1, .int p2, .int p3, .int p4]) (va_Qi (fun r (u : OV) => r = (fX4_stand oc p0 p1 p2 p3 p4).1 ∧ u = (fX4_stand oc p0 p1 p2 p3 p4).2) (qW D (fun (u : OV) => wX4 hq hc hu hi hg hy hw ++ wX0 cI hc ac u) (va_A (wX4 hq hc hu hi hg hy hw ++ wX0 cI hc ac oc) sz)) (va_A (wX4 hq hc hu hi hg hy hw ++ wX0 cI hc ac oc) sz)) 0 0 (va_A (wX4 hq hc hu hi hg hy hw ++ wX0 cI hc ac oc) sz) := by
  refine Met.ofW (cc := cX4_stand) (maxL := 6) (ret := (some .int)) (by decide) rfl ?_
  intro p e s m args below meth c s₁ B hml hv
  obtain ⟨rfl, hsz, hP, hK, hN, hD0⟩ := hv
  have hx := B.exec
  have hb := B.bytes
  have hr := B.returns
  have hts := atoms_spec (ws := wsX4_stand) B.pre
  have hown : s.vm.findClass RX4 = some m.cls := findClass_of_methodNamed B.named
  have hlocks := B.notSynchronized
  subst hsz
  have hD := hD0.self (sz := s.heap.size)
  generalize hAe : va_A (wX4 hq hc hu hi hg hy hw ++ wX0 cI hc ac oc) s.heap.size = A at hD ⊢
  have hA : ∀ q : Nat, s.heap.size ≤ q → A q := fun q h => by rw [← hAe]; exact Or.inr h
  have hS : va_S A s.heap s.heap [] := va_S.rf
  have hP : va_P D vwCl (wX4 hq hc hu hi hg hy hw ++ wX0 cI hc ac oc) s.heap := hP
  have hl := lv_entry ([.ref hq, .int p0, .int p1, .int p2, .int p3, .int p4]) (n := 6) (Nat.le_of_ble_eq_true rfl)
  rw [lg_entry_eq]
  generalize (lg_sl ([.ref hq, .int p0, .int p1, .int p2, .int p3, .int p4]) ++ List.replicate (6 - (lg_sl ([.ref hq, .int p0, .int p1, .int p2, .int p3, .int p4])).length) Slot.unset).toArray = ls at hl ⊢
  have hl : lv_has ls 6 [(0, .ref hq), (1, .int p0), (2, .int p1), (3, .int p2), (4, .int p3), (5, .int p4)] := hl
  have hSF : CallFix p m c cX4_stand 6 s _ wsX4_stand RX4 := ⟨hx, hb, hml, hown, hts⟩
  have hi4 : ∀ w ∈ wsX40, w ∈ wsX4_stand := by decide +kernel
  have hf10 : (Cond.fieldLink RX4 10 "UmbrellaVote" "city" "LUmbrellaVote$City;").before _ s = true := hts _ (by decide +kernel)
  have hi0 : ∀ w ∈ wsX00, w ∈ wsX4_stand := by decide +kernel
  have hf56 : (Cond.fieldLink RX4 56 "UmbrellaVote$City" "there" "I").before _ s = true := hts _ (by decide +kernel)
  have hf64 : (Cond.fieldLink RX4 64 "UmbrellaVote$City" "cotton" "I").before _ s = true := hts _ (by decide +kernel)
  have hf67 : (Cond.fieldLink RX4 67 "UmbrellaVote$City" "holes" "I").before _ s = true := hts _ (by decide +kernel)
  refine lv_iload_n hx hb dX4_stand_0 rfl (lv_at hl 1 rfl) ?_
  refine lv_iconst (v := 0) hx hb dX4_stand_1 (by decide) ?_
  refine lv_iconst (v := 5) hx hb dX4_stand_2 (by decide) ?_
  refine rcSi (As := [.int p0, .int 0, .int 5]) (rest := []) hSF (kX4_within l D cI cZ cC p0 0 5) (va_cwS 3 hts gX4_stand_X4_within rfl rfl rfl (by decide +kernel) ⟨Nat.le_of_ble_eq_true rfl, Nat.le_of_ble_eq_true rfl⟩) (hP.sub [] rfl) hK hN rfl rfl hl.1 (Nat.le_of_ble_eq_true rfl) dX4_stand_3 ⟨Nat.zero_le _, Nat.zero_le _⟩ ?_
  refine lv_if_eq (tgt := 16) hx hb dX4_stand_6 (by decide) (fun c1 => ?_) (fun c1 => ?_)
  · skip
    refine lv_iconst (v := (-1)) hx hb dX4_stand_16 (by decide) ?_
    have e9 : fX4_stand oc p0 p1 p2 p3 p4 = (((-1) : Int32), oc) := by
      simp only [fX4_stand, if_pos c1]
    exact W.iret hx hb hr (fun t ht hW => ⟨⟨_, oc, rfl, ⟨by rw [e9], by rw [e9]⟩, ⟨by rw [ht]; exact hP, hD⟩⟩, hS.F ht⟩) hS.2.2 dX4_stand_17
  · skip
    refine lv_iload_n hx hb dX4_stand_9 rfl (lv_at hl 2 rfl) ?_
    refine rcSi (As := [.int p1]) (rest := []) hSF (kX4_isPlace l D cI cZ cC p1) (va_cwS 1 hts gX4_stand_X4_isPlace rfl rfl rfl (by decide +kernel) ⟨Nat.le_of_ble_eq_true rfl, Nat.le_of_ble_eq_true rfl⟩) (hP.sub [] rfl) hK hN rfl rfl hl.1 (Nat.le_of_ble_eq_true rfl) dX4_stand_10 ⟨Nat.zero_le _, Nat.zero_le _⟩ ?_
    refine lv_if_ne (tgt := 18) hx hb dX4_stand_13 (by decide) (fun c2 => ?_) (fun c2 => ?_)
    · skip
      refine lv_iload_n hx hb dX4_stand_18 rfl (lv_at hl 3 rfl) ?_
      refine lv_iconst (v := 0) hx hb dX4_stand_19 (by decide) ?_
      refine lv_bipush (v := 9) hx hb dX4_stand_20 (by decide) ?_
      refine rcSi (As := [.int p2, .int 0, .int 9]) (rest := []) hSF (kX4_within l D cI cZ cC p2 0 9) (va_cwS 3 hts gX4_stand_X4_within rfl rfl rfl (by decide +kernel) ⟨Nat.le_of_ble_eq_true rfl, Nat.le_of_ble_eq_true rfl⟩) (hP.sub [] rfl) hK hN rfl rfl hl.1 (Nat.le_of_ble_eq_true rfl) dX4_stand_22 ⟨Nat.zero_le _, Nat.zero_le _⟩ ?_
      refine lv_if_eq (tgt := 38) hx hb dX4_stand_25 (by decide) (fun c3 => ?_) (fun c3 => ?_)
      · skip
        refine lv_bipush (v := (-2)) hx hb dX4_stand_38 (by decide) ?_
        have e9 : fX4_stand oc p0 p1 p2 p3 p4 = (((-2) : Int32), oc) := by
          simp only [fX4_stand, if_neg c1, if_neg c2, if_pos c3]
        exact W.iret hx hb hr (fun t ht hW => ⟨⟨_, oc, rfl, ⟨by rw [e9], by rw [e9]⟩, ⟨by rw [ht]; exact hP, hD⟩⟩, hS.F ht⟩) hS.2.2 dX4_stand_40
      · skip
        refine lv_iload hx hb dX4_stand_28 (lv_at hl 4 rfl) ?_
        refine lv_iconst (v := 0) hx hb dX4_stand_30 (by decide) ?_
        refine lv_iconst (v := 1) hx hb dX4_stand_31 (by decide) ?_
        refine rcSi (As := [.int p3, .int 0, .int 1]) (rest := []) hSF (kX4_within l D cI cZ cC p3 0 1) (va_cwS 3 hts gX4_stand_X4_within rfl rfl rfl (by decide +kernel) ⟨Nat.le_of_ble_eq_true rfl, Nat.le_of_ble_eq_true rfl⟩) (hP.sub [] rfl) hK hN rfl rfl hl.1 (Nat.le_of_ble_eq_true rfl) dX4_stand_32 ⟨Nat.zero_le _, Nat.zero_le _⟩ ?_
        refine lv_if_ne (tgt := 41) hx hb dX4_stand_35 (by decide) (fun c4 => ?_) (fun c4 => ?_)
        · skip
          refine lv_aload_n hx hb dX4_stand_41 rfl (lv_at hl 0 rfl) ?_
          refine va_get (D := D) (ci := 4) (v := .ref hc) (C := RX4) (T := TX4) (N := 6) hx hb hts hi4 hown hK hP 0 rfl rfl 0 (by decide) hf10 (fun _ h9 => h9) rfl dX4_stand_42 ?_
          refine lv_iload_n hx hb dX4_stand_45 rfl (lv_at hl 1 rfl) ?_
          refine lv_iload_n hx hb dX4_stand_46 rfl (lv_at hl 2 rfl) ?_
          refine lv_iload_n hx hb dX4_stand_47 rfl (lv_at hl 3 rfl) ?_
          refine wcVv (b := hc) (As := [.int p0, .int p1, .int p2]) (rest := []) (wr := [(hq, .inr (4, [.ref hc, .ref hu, .ref hi, .ref hg, .ref hy, .ref hw]))]) (ws' := wX4 hq hc hu hi hg hy hw ++ wX0 cI hc ac (fX0_put oc p0 p1 p2)) hSF (kX0_put l D cI cZ cC hc ac oc p0 p1 p2) (cwV 3 hts gX4_stand_X0_put rfl rfl rfl (by decide +kernel) ⟨Nat.le_of_ble_eq_true rfl, Nat.le_of_ble_eq_true rfl⟩) (va_recv hK hP (ci := 0) (q0 := 1) rfl rfl) hP hD hS hA hK hN [1, 2, 3, 4, 5, 6] [0] [0, 1, 2, 3, 4, 5, 6] rfl (by decide) rfl (by decide) (by decide) rfl (by decide) rfl rfl hl.1 (Nat.le_of_ble_eq_true rfl) dX4_stand_48 ⟨Nat.zero_le _, Nat.zero_le _⟩ (fun H locs hP hD hS => ?_)
          refine lv_aload_n hx hb dX4_stand_51 rfl (lv_at hl 0 rfl) ?_
          refine va_get (D := D) (ci := 4) (v := .ref hc) (C := RX4) (T := TX4) (N := 6) hx hb hts hi4 hown hK hP 0 rfl rfl 0 (by decide) hf10 (fun _ h9 => h9) rfl dX4_stand_52 ?_
          refine lv_aload_n hx hb dX4_stand_55 rfl (lv_at hl 0 rfl) ?_
          refine va_get (D := D) (ci := 4) (v := .ref hc) (C := RX4) (T := TX4) (N := 6) hx hb hts hi4 hown hK hP 0 rfl rfl 0 (by decide) hf10 (fun _ h9 => h9) rfl dX4_stand_56 ?_
          refine va_get (D := D) (ci := 0) (v := .int ((fX0_put oc p0 p1 p2).1 2)) (C := RX0) (T := TX0) (N := 12) hx hb hts hi0 hown hK hP 1 rfl rfl 2 (by decide) hf56 (fun _ h9 => h9) rfl dX4_stand_59 ?_
          refine lv_iload_n hx hb dX4_stand_62 rfl (lv_at hl 1 rfl) ?_
          refine lv_iconst (v := 1) hx hb dX4_stand_63 (by decide) ?_
          refine rcSi (As := [.int ((fX0_put oc p0 p1 p2).1 2), .int p0, .int 1]) (rest := [.ref hc]) hSF (kX4_withBit l D cI cZ cC ((fX0_put oc p0 p1 p2).1 2) p0 1) (va_cwS 3 hts gX4_stand_X4_withBit rfl rfl rfl (by decide +kernel) ⟨Nat.le_of_ble_eq_true rfl, Nat.le_of_ble_eq_true rfl⟩) (hP.sub [] rfl) hK hN rfl rfl hl.1 (Nat.le_of_ble_eq_true rfl) dX4_stand_64 ⟨Nat.zero_le _, Nat.zero_le _⟩ ?_
          refine va_put (D := D) (ci := 0) (v := .int (fX4_withBit ((fX0_put oc p0 p1 p2).1 2) p0 1)) (ty := .int) (C := RX0) (T := TX0) (N := 12) hx hb hts hi0 tyX0 tyX0_ok nmX0 hown hK hP hD hS 1 rfl rfl 2 (by decide) hf56 (fun _ h9 => h9) rfl (by decide +kernel) rfl rfl (Nat.le_of_ble_eq_true rfl) dX4_stand_67 (fun H locs hP hD hS => ?_)
          rw [sw_qc_c_s2] at hP hD
          have hP : va_P D vwCl (wX4 hq hc hu hi hg hy hw ++ wX0 cI hc ac (us (fX0_put oc p0 p1 p2) 2 (fX4_withBit ((fX0_put oc p0 p1 p2).1 2) p0 1))) H := hP
          have hD : va_D A (wX4 hq hc hu hi hg hy hw ++ wX0 cI hc ac (us (fX0_put oc p0 p1 p2) 2 (fX4_withBit ((fX0_put oc p0 p1 p2).1 2) p0 1))) := hD
          refine lv_aload_n hx hb dX4_stand_70 rfl (lv_at hl 0 rfl) ?_
          refine va_get (D := D) (ci := 4) (v := .ref hc) (C := RX4) (T := TX4) (N := 6) hx hb hts hi4 hown hK hP 0 rfl rfl 0 (by decide) hf10 (fun _ h9 => h9) rfl dX4_stand_71 ?_
          refine lv_aload_n hx hb dX4_stand_74 rfl (lv_at hl 0 rfl) ?_
          refine va_get (D := D) (ci := 4) (v := .ref hc) (C := RX4) (T := TX4) (N := 6) hx hb hts hi4 hown hK hP 0 rfl rfl 0 (by decide) hf10 (fun _ h9 => h9) rfl dX4_stand_75 ?_
          refine va_get (D := D) (ci := 0) (v := .int ((fX0_put oc p0 p1 p2).1 4)) (C := RX0) (T := TX0) (N := 12) hx hb hts hi0 hown hK hP 1 rfl rfl 4 (by decide) hf64 (fun _ h9 => h9) rfl dX4_stand_78 ?_
          refine lv_iload_n hx hb dX4_stand_81 rfl (lv_at hl 1 rfl) ?_
          refine lv_iload hx hb dX4_stand_82 (lv_at hl 4 rfl) ?_
          refine lv_iconst (v := 1) hx hb dX4_stand_84 (by decide) ?_
          refine W_itei (P := p3 = 1) (a := 1) (b := 0) (J := 93) (ls9 := ls) (rest9 := [.int p0, .int ((fX0_put oc p0 p1 p2).1 4), .ref hc]) (fun ja6 jb6 => ?_) ?_
          · refine lv_icmp_ne (tgt := 92) hx hb dX4_stand_85 (by decide) (fun c5 => ?_) (fun c5 => ?_)
            · skip
              refine lv_iconst (v := 0) hx hb dX4_stand_92 (by decide) ?_
              exact jb6 c5
            · skip
              refine lv_iconst (v := 1) hx hb dX4_stand_88 (by decide) ?_
              refine lv_goto (tgt := 93) hx hb dX4_stand_89 (by decide) ?_
              exact ja6 c5
          refine rcSi (As := [.int ((fX0_put oc p0 p1 p2).1 4), .int p0, .int (if p3 = 1 then (1 : Int32) else 0)]) (rest := [.ref hc]) hSF (kX4_withBit l D cI cZ cC ((fX0_put oc p0 p1 p2).1 4) p0 (if p3 = 1 then (1 : Int32) else 0)) (va_cwS 3 hts gX4_stand_X4_withBit rfl rfl rfl (by decide +kernel) ⟨Nat.le_of_ble_eq_true rfl, Nat.le_of_ble_eq_true rfl⟩) (hP.sub [] rfl) hK hN rfl rfl hl.1 (Nat.le_of_ble_eq_true rfl) dX4_stand_93 ⟨Nat.zero_le _, Nat.zero_le _⟩ ?_
          refine va_put (D := D) (ci := 0) (v := .int (fX4_withBit ((fX0_put oc p0 p1 p2).1 4) p0 (if p3 = 1 then (1 : Int32) else 0))) (ty := .int) (C := RX0) (T := TX0) (N := 12) hx hb hts hi0 tyX0 tyX0_ok nmX0 hown hK hP hD hS 1 rfl rfl 4 (by decide) hf64 (fun _ h9 => h9) rfl (by decide +kernel) rfl rfl (Nat.le_of_ble_eq_true rfl) dX4_stand_96 (fun H locs hP hD hS => ?_)
          rw [sw_qc_c_s4] at hP hD
          have hP : va_P D vwCl (wX4 hq hc hu hi hg hy hw ++ wX0 cI hc ac (us (us (fX0_put oc p0 p1 p2) 2 (fX4_withBit ((fX0_put oc p0 p1 p2).1 2) p0 1)) 4 (fX4_withBit ((fX0_put oc p0 p1 p2).1 4) p0 (if p3 = 1 then (1 : Int32) else 0)))) H := hP
          have hD : va_D A (wX4 hq hc hu hi hg hy hw ++ wX0 cI hc ac (us (us (fX0_put oc p0 p1 p2) 2 (fX4_withBit ((fX0_put oc p0 p1 p2).1 2) p0 1)) 4 (fX4_withBit ((fX0_put oc p0 p1 p2).1 4) p0 (if p3 = 1 then (1 : Int32) else 0)))) := hD
          refine lv_aload_n hx hb dX4_stand_99 rfl (lv_at hl 0 rfl) ?_
          refine va_get (D := D) (ci := 4) (v := .ref hc) (C := RX4) (T := TX4) (N := 6) hx hb hts hi4 hown hK hP 0 rfl rfl 0 (by decide) hf10 (fun _ h9 => h9) rfl dX4_stand_100 ?_
          refine lv_aload_n hx hb dX4_stand_103 rfl (lv_at hl 0 rfl) ?_
          refine va_get (D := D) (ci := 4) (v := .ref hc) (C := RX4) (T := TX4) (N := 6) hx hb hts hi4 hown hK hP 0 rfl rfl 0 (by decide) hf10 (fun _ h9 => h9) rfl dX4_stand_104 ?_
          refine va_get (D := D) (ci := 0) (v := .int ((fX0_put oc p0 p1 p2).1 3)) (C := RX0) (T := TX0) (N := 12) hx hb hts hi0 hown hK hP 1 rfl rfl 3 (by decide) hf67 (fun _ h9 => h9) rfl dX4_stand_107 ?_
          refine lv_iload_n hx hb dX4_stand_110 rfl (lv_at hl 1 rfl) ?_
          refine lv_iload hx hb dX4_stand_111 (lv_at hl 5 rfl) ?_
          refine rcSi (As := [.int ((fX0_put oc p0 p1 p2).1 3), .int p0, .int p4]) (rest := [.ref hc]) hSF (kX4_withBit l D cI cZ cC ((fX0_put oc p0 p1 p2).1 3) p0 p4) (va_cwS 3 hts gX4_stand_X4_withBit rfl rfl rfl (by decide +kernel) ⟨Nat.le_of_ble_eq_true rfl, Nat.le_of_ble_eq_true rfl⟩) (hP.sub [] rfl) hK hN rfl rfl hl.1 (Nat.le_of_ble_eq_true rfl) dX4_stand_113 ⟨Nat.zero_le _, Nat.zero_le _⟩ ?_
          refine va_put (D := D) (ci := 0) (v := .int (fX4_withBit ((fX0_put oc p0 p1 p2).1 3) p0 p4)) (ty := .int) (C := RX0) (T := TX0) (N := 12) hx hb hts hi0 tyX0 tyX0_ok nmX0 hown hK hP hD hS 1 rfl rfl 3 (by decide) hf67 (fun _ h9 => h9) rfl (by decide +kernel) rfl rfl (Nat.le_of_ble_eq_true rfl) dX4_stand_116 (fun H locs hP hD hS => ?_)
          rw [sw_qc_c_s3] at hP hD
          have hP : va_P D vwCl (wX4 hq hc hu hi hg hy hw ++ wX0 cI hc ac (us (us (us (fX0_put oc p0 p1 p2) 2 (fX4_withBit ((fX0_put oc p0 p1 p2).1 2) p0 1)) 4 (fX4_withBit ((fX0_put oc p0 p1 p2).1 4) p0 (if p3 = 1 then (1 : Int32) else 0))) 3 (fX4_withBit ((fX0_put oc p0 p1 p2).1 3) p0 p4))) H := hP
          have hD : va_D A (wX4 hq hc hu hi hg hy hw ++ wX0 cI hc ac (us (us (us (fX0_put oc p0 p1 p2) 2 (fX4_withBit ((fX0_put oc p0 p1 p2).1 2) p0 1)) 4 (fX4_withBit ((fX0_put oc p0 p1 p2).1 4) p0 (if p3 = 1 then (1 : Int32) else 0))) 3 (fX4_withBit ((fX0_put oc p0 p1 p2).1 3) p0 p4))) := hD
          refine lv_aload_n hx hb dX4_stand_119 rfl (lv_at hl 0 rfl) ?_
          refine va_get (D := D) (ci := 4) (v := .ref hc) (C := RX4) (T := TX4) (N := 6) hx hb hts hi4 hown hK hP 0 rfl rfl 0 (by decide) hf10 (fun _ h9 => h9) rfl dX4_stand_120 ?_
          refine va_get (D := D) (ci := 0) (v := .int (fX4_withBit ((fX0_put oc p0 p1 p2).1 2) p0 1)) (C := RX0) (T := TX0) (N := 12) hx hb hts hi0 hown hK hP 1 rfl rfl 2 (by decide) hf56 (fun _ h9 => h9) rfl dX4_stand_123 ?_
          refine rcSi (As := [.int (fX4_withBit ((fX0_put oc p0 p1 p2).1 2) p0 1)]) (rest := []) hSF (kJ6_bitCount_0f7a4 l D cI cZ cC (fX4_withBit ((fX0_put oc p0 p1 p2).1 2) p0 1)) (va_cwS 1 hts gX4_stand_J6_bitCount_0f7a4 rfl rfl rfl (by decide +kernel) ⟨Nat.le_of_ble_eq_true rfl, Nat.le_of_ble_eq_true rfl⟩) (hP.sub [] rfl) hK hN rfl rfl hl.1 (Nat.le_of_ble_eq_true rfl) dX4_stand_126 ⟨Nat.zero_le _, Nat.zero_le _⟩ ?_
          have e9 : fX4_stand oc p0 p1 p2 p3 p4 = ((fJ6_bitCount_0f7a4 (fX4_withBit ((fX0_put oc p0 p1 p2).1 2) p0 1)), (us (us (us (fX0_put oc p0 p1 p2) 2 (fX4_withBit ((fX0_put oc p0 p1 p2).1 2) p0 1)) 4 (fX4_withBit ((fX0_put oc p0 p1 p2).1 4) p0 (if p3 = 1 then (1 : Int32) else 0))) 3 (fX4_withBit ((fX0_put oc p0 p1 p2).1 3) p0 p4))) := by
            simp only [fX4_stand, if_neg c1, if_neg c2, if_neg c3, if_neg c4]
          exact W.iret hx hb hr (fun t ht hW => ⟨⟨_, (us (us (us (fX0_put oc p0 p1 p2) 2 (fX4_withBit ((fX0_put oc p0 p1 p2).1 2) p0 1)) 4 (fX4_withBit ((fX0_put oc p0 p1 p2).1 4) p0 (if p3 = 1 then (1 : Int32) else 0))) 3 (fX4_withBit ((fX0_put oc p0 p1 p2).1 3) p0 p4)), rfl, ⟨by rw [e9], by rw [e9]⟩, ⟨by rw [ht]; exact hP, hD⟩⟩, hS.F ht⟩) hS.2.2 dX4_stand_129
        · skip
          refine lv_bipush (v := (-2)) hx hb dX4_stand_38 (by decide) ?_
          have e9 : fX4_stand oc p0 p1 p2 p3 p4 = (((-2) : Int32), oc) := by
            simp only [fX4_stand, if_neg c1, if_neg c2, if_neg c3, if_pos c4]
          exact W.iret hx hb hr (fun t ht hW => ⟨⟨_, oc, rfl, ⟨by rw [e9], by rw [e9]⟩, ⟨by rw [ht]; exact hP, hD⟩⟩, hS.F ht⟩) hS.2.2 dX4_stand_40
    · skip
      refine lv_iconst (v := (-1)) hx hb dX4_stand_16 (by decide) ?_
      have e9 : fX4_stand oc p0 p1 p2 p3 p4 = (((-1) : Int32), oc) := by
        simp only [fX4_stand, if_neg c1, if_pos c2]
      exact W.iret hx hb hr (fun t ht hW => ⟨⟨_, oc, rfl, ⟨by rw [e9], by rw [e9]⟩, ⟨by rw [ht]; exact hP, hD⟩⟩, hS.F ht⟩) hS.2.2 dX4_stand_17

set_option maxHeartbeats 4000000 in
set_option maxRecDepth 100000 in
theorem kX4_leave (l : Launch) (D : va_G) (cI cZ cC : ClassId) (hq hu hi hg hy hw : Nat) (hc : Nat) (ac : Nat → Nat) (oc : OV) (p0 : Int32)  {sz : Nat} : Met l yX4_leave wsX4_leave ({ frames := 2, cells := 0, slots := 0, locals := 43 }) (pW D (tyv cI cZ cC) (wX4 hq hc hu hi hg hy hw ++ wX0 cI hc ac oc) sz [.ref hq, .int p0]) (va_Qi (fun r (u : OV) => r = (fX4_leave oc p0).1 ∧ u = (fX4_leave oc p0).2) (qW D (fun (u : OV) => wX4 hq hc hu hi hg hy hw ++ wX0 cI hc ac u) (va_A (wX4 hq hc hu hi hg hy hw ++ wX0 cI hc ac oc) sz)) (va_A (wX4 hq hc hu hi hg hy hw ++ wX0 cI hc ac oc) sz)) 0 0 (va_A (wX4 hq hc hu hi hg hy hw ++ wX0 cI hc ac oc) sz) := by
  refine Met.ofW (cc := cX4_leave) (maxL := 2) (ret := (some .int)) (by decide) rfl ?_
  intro p e s m args below meth c s₁ B hml hv
  obtain ⟨rfl, hsz, hP, hK, hN, hD0⟩ := hv
  have hx := B.exec
  have hb := B.bytes
  have hr := B.returns
  have hts := atoms_spec (ws := wsX4_leave) B.pre
  have hown : s.vm.findClass RX4 = some m.cls := findClass_of_methodNamed B.named
  have hlocks := B.notSynchronized
  subst hsz
  have hD := hD0.self (sz := s.heap.size)
  generalize hAe : va_A (wX4 hq hc hu hi hg hy hw ++ wX0 cI hc ac oc) s.heap.size = A at hD ⊢
  have hA : ∀ q : Nat, s.heap.size ≤ q → A q := fun q h => by rw [← hAe]; exact Or.inr h
  have hS : va_S A s.heap s.heap [] := va_S.rf
  have hP : va_P D vwCl (wX4 hq hc hu hi hg hy hw ++ wX0 cI hc ac oc) s.heap := hP
  have hl := lv_entry ([.ref hq, .int p0]) (n := 2) (Nat.le_of_ble_eq_true rfl)
  rw [lg_entry_eq]
  generalize (lg_sl ([.ref hq, .int p0]) ++ List.replicate (2 - (lg_sl ([.ref hq, .int p0])).length) Slot.unset).toArray = ls at hl ⊢
  have hl : lv_has ls 2 [(0, .ref hq), (1, .int p0)] := hl
  have hSF : CallFix p m c cX4_leave 2 s _ wsX4_leave RX4 := ⟨hx, hb, hml, hown, hts⟩
  have hi4 : ∀ w ∈ wsX40, w ∈ wsX4_leave := by decide +kernel
  have hf10 : (Cond.fieldLink RX4 10 "UmbrellaVote" "city" "LUmbrellaVote$City;").before _ s = true := hts _ (by decide +kernel)
  have hi0 : ∀ w ∈ wsX00, w ∈ wsX4_leave := by decide +kernel
  have hf56 : (Cond.fieldLink RX4 56 "UmbrellaVote$City" "there" "I").before _ s = true := hts _ (by decide +kernel)
  refine lv_aload_n hx hb dX4_leave_0 rfl (lv_at hl 0 rfl) ?_
  refine va_get (D := D) (ci := 4) (v := .ref hc) (C := RX4) (T := TX4) (N := 6) hx hb hts hi4 hown hK hP 0 rfl rfl 0 (by decide) hf10 (fun _ h9 => h9) rfl dX4_leave_1 ?_
  refine lv_iload_n hx hb dX4_leave_4 rfl (lv_at hl 1 rfl) ?_
  refine rcVi (b := hc) (As := [.int p0]) (rest := []) hSF (kX0_isThere l D cI cZ cC hc ac oc p0) (cwV 1 hts gX4_leave_X0_isThere rfl rfl rfl (by decide +kernel) ⟨Nat.le_of_ble_eq_true rfl, Nat.le_of_ble_eq_true rfl⟩) (va_recv hK hP (ci := 0) (q0 := 1) rfl rfl) (hP.sub [1, 2, 3, 4, 5, 6] rfl) hK hN rfl rfl hl.1 (Nat.le_of_ble_eq_true rfl) dX4_leave_5 ⟨Nat.zero_le _, Nat.zero_le _⟩ ?_
  refine lv_if_ne (tgt := 13) hx hb dX4_leave_8 (by decide) (fun c1 => ?_) (fun c1 => ?_)
  · skip
    refine lv_aload_n hx hb dX4_leave_13 rfl (lv_at hl 0 rfl) ?_
    refine va_get (D := D) (ci := 4) (v := .ref hc) (C := RX4) (T := TX4) (N := 6) hx hb hts hi4 hown hK hP 0 rfl rfl 0 (by decide) hf10 (fun _ h9 => h9) rfl dX4_leave_14 ?_
    refine lv_aload_n hx hb dX4_leave_17 rfl (lv_at hl 0 rfl) ?_
    refine va_get (D := D) (ci := 4) (v := .ref hc) (C := RX4) (T := TX4) (N := 6) hx hb hts hi4 hown hK hP 0 rfl rfl 0 (by decide) hf10 (fun _ h9 => h9) rfl dX4_leave_18 ?_
    refine va_get (D := D) (ci := 0) (v := .int (oc.1 2)) (C := RX0) (T := TX0) (N := 12) hx hb hts hi0 hown hK hP 1 rfl rfl 2 (by decide) hf56 (fun _ h9 => h9) rfl dX4_leave_21 ?_
    refine lv_iload_n hx hb dX4_leave_24 rfl (lv_at hl 1 rfl) ?_
    refine lv_iconst (v := 0) hx hb dX4_leave_25 (by decide) ?_
    refine rcSi (As := [.int (oc.1 2), .int p0, .int 0]) (rest := [.ref hc]) hSF (kX4_withBit l D cI cZ cC (oc.1 2) p0 0) (va_cwS 3 hts gX4_leave_X4_withBit rfl rfl rfl (by decide +kernel) ⟨Nat.le_of_ble_eq_true rfl, Nat.le_of_ble_eq_true rfl⟩) (hP.sub [] rfl) hK hN rfl rfl hl.1 (Nat.le_of_ble_eq_true rfl) dX4_leave_26 ⟨Nat.zero_le _, Nat.zero_le _⟩ ?_
    refine va_put (D := D) (ci := 0) (v := .int (fX4_withBit (oc.1 2) p0 0)) (ty := .int) (C := RX0) (T := TX0) (N := 12) hx hb hts hi0 tyX0 tyX0_ok nmX0 hown hK hP hD hS 1 rfl rfl 2 (by decide) hf56 (fun _ h9 => h9) rfl (by decide +kernel) rfl rfl (Nat.le_of_ble_eq_true rfl) dX4_leave_29 (fun H locs hP hD hS => ?_)
    have hP : va_P D vwCl (wX4 hq hc hu hi hg hy hw ++ wX0 cI hc ac (us oc 2 (fX4_withBit (oc.1 2) p0 0))) H := hP
    have hD : va_D A (wX4 hq hc hu hi hg hy hw ++ wX0 cI hc ac (us oc 2 (fX4_withBit (oc.1 2) p0 0))) := hD
    refine lv_aload_n hx hb dX4_leave_32 rfl (lv_at hl 0 rfl) ?_
    refine va_get (D := D) (ci := 4) (v := .ref hc) (C := RX4) (T := TX4) (N := 6) hx hb hts hi4 hown hK hP 0 rfl rfl 0 (by decide) hf10 (fun _ h9 => h9) rfl dX4_leave_33 ?_
    refine va_get (D := D) (ci := 0) (v := .int (fX4_withBit (oc.1 2) p0 0)) (C := RX0) (T := TX0) (N := 12) hx hb hts hi0 hown hK hP 1 rfl rfl 2 (by decide) hf56 (fun _ h9 => h9) rfl dX4_leave_36 ?_
    refine rcSi (As := [.int (fX4_withBit (oc.1 2) p0 0)]) (rest := []) hSF (kJ6_bitCount_0f7a4 l D cI cZ cC (fX4_withBit (oc.1 2) p0 0)) (va_cwS 1 hts gX4_leave_J6_bitCount_0f7a4 rfl rfl rfl (by decide +kernel) ⟨Nat.le_of_ble_eq_true rfl, Nat.le_of_ble_eq_true rfl⟩) (hP.sub [] rfl) hK hN rfl rfl hl.1 (Nat.le_of_ble_eq_true rfl) dX4_leave_39 ⟨Nat.zero_le _, Nat.zero_le _⟩ ?_
    have e9 : fX4_leave oc p0 = ((fJ6_bitCount_0f7a4 (fX4_withBit (oc.1 2) p0 0)), (us oc 2 (fX4_withBit (oc.1 2) p0 0))) := by
      simp only [fX4_leave, if_neg c1]
    exact W.iret hx hb hr (fun t ht hW => ⟨⟨_, (us oc 2 (fX4_withBit (oc.1 2) p0 0)), rfl, ⟨by rw [e9], by rw [e9]⟩, ⟨by rw [ht]; exact hP, hD⟩⟩, hS.F ht⟩) hS.2.2 dX4_leave_42
  · skip
    refine lv_iconst (v := (-1)) hx hb dX4_leave_11 (by decide) ?_
    have e9 : fX4_leave oc p0 = (((-1) : Int32), oc) := by
      simp only [fX4_leave, if_pos c1]
    exact W.iret hx hb hr (fun t ht hW => ⟨⟨_, oc, rfl, ⟨by rw [e9], by rw [e9]⟩, ⟨by rw [ht]; exact hP, hD⟩⟩, hS.F ht⟩) hS.2.2 dX4_leave_12

set_option maxHeartbeats 4000000 in
set_option maxRecDepth 100000 in
theorem kX4_table (l : Launch) (D : va_G) (cI cZ cC : ClassId) (hq hu hi hg hy hw : Nat) (hc : Nat) (ac : Nat → Nat) (oc : OV) (p0 : Int32) (p1 : Int32)  {sz : Nat} : Met l yX4_table wsX4_table ({ frames := 2, cells := 0, slots := 0, locals := 42 }) (pW D (tyv cI cZ cC) (wX4 hq hc hu hi hg hy hw ++ wX0 cI hc ac oc) sz [.ref hq, .int p0, .int p1]) (va_Qi (fun r (u : OV) => r = (fX4_table oc p0 p1).1 ∧ u = (fX4_table oc p0 p1).2) (qW D (fun (u : OV) => wX4 hq hc hu hi hg hy hw ++ wX0 cI hc ac u) (va_A (wX4 hq hc hu hi hg hy hw ++ wX0 cI hc ac oc) sz)) (va_A (wX4 hq hc hu hi hg hy hw ++ wX0 cI hc ac oc) sz)) 0 0 (va_A (wX4 hq hc hu hi hg hy hw ++ wX0 cI hc ac oc) sz) := by
  refine Met.ofW (cc := cX4_table) (maxL := 3) (ret := (some .int)) (by decide) rfl ?_
  intro p e s m args below meth c s₁ B hml hv
  obtain ⟨rfl, hsz, hP, hK, hN, hD0⟩ := hv
  have hx := B.exec
  have hb := B.bytes
  have hr := B.returns
  have hts := atoms_spec (ws := wsX4_table) B.pre
  have hown : s.vm.findClass RX4 = some m.cls := findClass_of_methodNamed B.named
  have hlocks := B.notSynchronized
  subst hsz
  have hD := hD0.self (sz := s.heap.size)
  generalize hAe : va_A (wX4 hq hc hu hi hg hy hw ++ wX0 cI hc ac oc) s.heap.size = A at hD ⊢
  have hA : ∀ q : Nat, s.heap.size ≤ q → A q := fun q h => by rw [← hAe]; exact Or.inr h
  have hS : va_S A s.heap s.heap [] := va_S.rf
  have hP : va_P D vwCl (wX4 hq hc hu hi hg hy hw ++ wX0 cI hc ac oc) s.heap := hP
  have hl := lv_entry ([.ref hq, .int p0, .int p1]) (n := 3) (Nat.le_of_ble_eq_true rfl)
  rw [lg_entry_eq]
  generalize (lg_sl ([.ref hq, .int p0, .int p1]) ++ List.replicate (3 - (lg_sl ([.ref hq, .int p0, .int p1])).length) Slot.unset).toArray = ls at hl ⊢
  have hl : lv_has ls 3 [(0, .ref hq), (1, .int p0), (2, .int p1)] := hl
  have hSF : CallFix p m c cX4_table 3 s _ wsX4_table RX4 := ⟨hx, hb, hml, hown, hts⟩
  have hi4 : ∀ w ∈ wsX40, w ∈ wsX4_table := by decide +kernel
  have hf10 : (Cond.fieldLink RX4 10 "UmbrellaVote" "city" "LUmbrellaVote$City;").before _ s = true := hts _ (by decide +kernel)
  have hi0 : ∀ w ∈ wsX00, w ∈ wsX4_table := by decide +kernel
  have hf79 : (Cond.fieldLink RX4 79 "UmbrellaVote$City" "tables" "I").before _ s = true := hts _ (by decide +kernel)
  refine lv_iload_n hx hb dX4_table_0 rfl (lv_at hl 1 rfl) ?_
  refine rcSi (As := [.int p0]) (rest := []) hSF (kX4_isPlace l D cI cZ cC p0) (va_cwS 1 hts gX4_table_X4_isPlace rfl rfl rfl (by decide +kernel) ⟨Nat.le_of_ble_eq_true rfl, Nat.le_of_ble_eq_true rfl⟩) (hP.sub [] rfl) hK hN rfl rfl hl.1 (Nat.le_of_ble_eq_true rfl) dX4_table_1 ⟨Nat.zero_le _, Nat.zero_le _⟩ ?_
  refine lv_if_ne (tgt := 9) hx hb dX4_table_4 (by decide) (fun c1 => ?_) (fun c1 => ?_)
  · skip
    refine lv_aload_n hx hb dX4_table_9 rfl (lv_at hl 0 rfl) ?_
    refine va_get (D := D) (ci := 4) (v := .ref hc) (C := RX4) (T := TX4) (N := 6) hx hb hts hi4 hown hK hP 0 rfl rfl 0 (by decide) hf10 (fun _ h9 => h9) rfl dX4_table_10 ?_
    refine lv_aload_n hx hb dX4_table_13 rfl (lv_at hl 0 rfl) ?_
    refine va_get (D := D) (ci := 4) (v := .ref hc) (C := RX4) (T := TX4) (N := 6) hx hb hts hi4 hown hK hP 0 rfl rfl 0 (by decide) hf10 (fun _ h9 => h9) rfl dX4_table_14 ?_
    refine va_get (D := D) (ci := 0) (v := .int (oc.1 5)) (C := RX0) (T := TX0) (N := 12) hx hb hts hi0 hown hK hP 1 rfl rfl 5 (by decide) hf79 (fun _ h9 => h9) rfl dX4_table_17 ?_
    refine lv_iload_n hx hb dX4_table_20 rfl (lv_at hl 1 rfl) ?_
    refine lv_iload_n hx hb dX4_table_21 rfl (lv_at hl 2 rfl) ?_
    refine rcSi (As := [.int (oc.1 5), .int p0, .int p1]) (rest := [.ref hc]) hSF (kX4_withBit l D cI cZ cC (oc.1 5) p0 p1) (va_cwS 3 hts gX4_table_X4_withBit rfl rfl rfl (by decide +kernel) ⟨Nat.le_of_ble_eq_true rfl, Nat.le_of_ble_eq_true rfl⟩) (hP.sub [] rfl) hK hN rfl rfl hl.1 (Nat.le_of_ble_eq_true rfl) dX4_table_22 ⟨Nat.zero_le _, Nat.zero_le _⟩ ?_
    refine va_put (D := D) (ci := 0) (v := .int (fX4_withBit (oc.1 5) p0 p1)) (ty := .int) (C := RX0) (T := TX0) (N := 12) hx hb hts hi0 tyX0 tyX0_ok nmX0 hown hK hP hD hS 1 rfl rfl 5 (by decide) hf79 (fun _ h9 => h9) rfl (by decide +kernel) rfl rfl (Nat.le_of_ble_eq_true rfl) dX4_table_25 (fun H locs hP hD hS => ?_)
    have hP : va_P D vwCl (wX4 hq hc hu hi hg hy hw ++ wX0 cI hc ac (us oc 5 (fX4_withBit (oc.1 5) p0 p1))) H := hP
    have hD : va_D A (wX4 hq hc hu hi hg hy hw ++ wX0 cI hc ac (us oc 5 (fX4_withBit (oc.1 5) p0 p1))) := hD
    refine lv_iconst (v := 1) hx hb dX4_table_28 (by decide) ?_
    have e9 : fX4_table oc p0 p1 = ((1 : Int32), (us oc 5 (fX4_withBit (oc.1 5) p0 p1))) := by
      simp only [fX4_table, if_neg c1]
    exact W.iret hx hb hr (fun t ht hW => ⟨⟨_, (us oc 5 (fX4_withBit (oc.1 5) p0 p1)), rfl, ⟨by rw [e9], by rw [e9]⟩, ⟨by rw [ht]; exact hP, hD⟩⟩, hS.F ht⟩) hS.2.2 dX4_table_29
  · skip
    refine lv_iconst (v := (-1)) hx hb dX4_table_7 (by decide) ?_
    have e9 : fX4_table oc p0 p1 = (((-1) : Int32), oc) := by
      simp only [fX4_table, if_pos c1]
    exact W.iret hx hb hr (fun t ht hW => ⟨⟨_, oc, rfl, ⟨by rw [e9], by rw [e9]⟩, ⟨by rw [ht]; exact hP, hD⟩⟩, hS.F ht⟩) hS.2.2 dX4_table_8

set_option maxHeartbeats 4000000 in
set_option maxRecDepth 100000 in
theorem kX4_set (l : Launch) (D : va_G) (cI cZ cC : ClassId) (hq hu hi hg hy hw : Nat) (hc : Nat) (ac : Nat → Nat) (oc : OV) (p0 : Int32) (p1 : Int32)  {sz : Nat} : Met l yX4_set wsX4_set ({ frames := 1, cells := 0, slots := 0, locals := 22 }) (pW D (tyv cI cZ cC) (wX4 hq hc hu hi hg hy hw ++ wX0 cI hc ac oc) sz [.ref hq, .int p0, .int p1]) (va_Qi (fun r (u : OV) => r = (fX4_set oc p0 p1).1 ∧ u = (fX4_set oc p0 p1).2) (qW D (fun (u : OV) => wX4 hq hc hu hi hg hy hw ++ wX0 cI hc ac u) (va_A (wX4 hq hc hu hi hg hy hw ++ wX0 cI hc ac oc) sz)) (va_A (wX4 hq hc hu hi hg hy hw ++ wX0 cI hc ac oc) sz)) 0 0 (va_A (wX4 hq hc hu hi hg hy hw ++ wX0 cI hc ac oc) sz) := by
  refine Met.ofW (cc := cX4_set) (maxL := 4) (ret := (some .int)) (by decide) rfl ?_
  intro p e s m args below meth c s₁ B hml hv
  obtain ⟨rfl, hsz, hP, hK, hN, hD0⟩ := hv
  have hx := B.exec
  have hb := B.bytes
  have hr := B.returns
  have hts := atoms_spec (ws := wsX4_set) B.pre
  have hown : s.vm.findClass RX4 = some m.cls := findClass_of_methodNamed B.named
  have hlocks := B.notSynchronized
  subst hsz
  have hD := hD0.self (sz := s.heap.size)
  generalize hAe : va_A (wX4 hq hc hu hi hg hy hw ++ wX0 cI hc ac oc) s.heap.size = A at hD ⊢
  have hA : ∀ q : Nat, s.heap.size ≤ q → A q := fun q h => by rw [← hAe]; exact Or.inr h
  have hS : va_S A s.heap s.heap [] := va_S.rf
  have hP : va_P D vwCl (wX4 hq hc hu hi hg hy hw ++ wX0 cI hc ac oc) s.heap := hP
  have hl := lv_entry ([.ref hq, .int p0, .int p1]) (n := 4) (Nat.le_of_ble_eq_true rfl)
  rw [lg_entry_eq]
  generalize (lg_sl ([.ref hq, .int p0, .int p1]) ++ List.replicate (4 - (lg_sl ([.ref hq, .int p0, .int p1])).length) Slot.unset).toArray = ls at hl ⊢
  have hl : lv_has ls 4 [(0, .ref hq), (1, .int p0), (2, .int p1)] := hl
  have hSF : CallFix p m c cX4_set 4 s _ wsX4_set RX4 := ⟨hx, hb, hml, hown, hts⟩
  have hi4 : ∀ w ∈ wsX40, w ∈ wsX4_set := by decide +kernel
  have hf10 : (Cond.fieldLink RX4 10 "UmbrellaVote" "city" "LUmbrellaVote$City;").before _ s = true := hts _ (by decide +kernel)
  have hi0 : ∀ w ∈ wsX00, w ∈ wsX4_set := by decide +kernel
  have hf85 : (Cond.fieldLink RX4 85 "UmbrellaVote$City" "shade" "I").before _ s = true := hts _ (by decide +kernel)
  have hf82 : (Cond.fieldLink RX4 82 "UmbrellaVote$City" "spread" "I").before _ s = true := hts _ (by decide +kernel)
  refine lv_iload_n hx hb dX4_set_0 rfl (lv_at hl 1 rfl) ?_
  refine lv_if_ne (tgt := 32) hx hb dX4_set_1 (by decide) (fun c1 => ?_) (fun c1 => ?_)
  · skip
    refine lv_iload_n hx hb dX4_set_32 rfl (lv_at hl 1 rfl) ?_
    refine lv_iconst (v := 1) hx hb dX4_set_33 (by decide) ?_
    refine lv_icmp_ne (tgt := 65) hx hb dX4_set_34 (by decide) (fun c2 => ?_) (fun c2 => ?_)
    · skip
      refine lv_bipush (v := (-2)) hx hb dX4_set_65 (by decide) ?_
      have e9 : fX4_set oc p0 p1 = (((-2) : Int32), oc) := by
        simp only [fX4_set, if_neg c1, if_neg c2]
      exact W.iret hx hb hr (fun t ht hW => ⟨⟨_, oc, rfl, ⟨by rw [e9], by rw [e9]⟩, ⟨by rw [ht]; exact hP, hD⟩⟩, hS.F ht⟩) hS.2.2 dX4_set_67
    · skip
      refine lv_iload_n hx hb dX4_set_37 rfl (lv_at hl 2 rfl) ?_
      refine lv_iconst (v := 0) hx hb dX4_set_38 (by decide) ?_
      refine lv_bipush (v := 9) hx hb dX4_set_39 (by decide) ?_
      refine rcSi (As := [.int p1, .int 0, .int 9]) (rest := []) hSF (kX4_within l D cI cZ cC p1 0 9) (va_cwS 3 hts gX4_set_X4_within rfl rfl rfl (by decide +kernel) ⟨Nat.le_of_ble_eq_true rfl, Nat.le_of_ble_eq_true rfl⟩) (hP.sub [] rfl) hK hN rfl rfl hl.1 (Nat.le_of_ble_eq_true rfl) dX4_set_41 ⟨Nat.zero_le _, Nat.zero_le _⟩ ?_
      refine lv_if_eq (tgt := 65) hx hb dX4_set_44 (by decide) (fun c3 => ?_) (fun c3 => ?_)
      · skip
        refine lv_bipush (v := (-2)) hx hb dX4_set_65 (by decide) ?_
        have e9 : fX4_set oc p0 p1 = (((-2) : Int32), oc) := by
          simp only [fX4_set, if_neg c1, if_pos c2, if_pos c3]
        exact W.iret hx hb hr (fun t ht hW => ⟨⟨_, oc, rfl, ⟨by rw [e9], by rw [e9]⟩, ⟨by rw [ht]; exact hP, hD⟩⟩, hS.F ht⟩) hS.2.2 dX4_set_67
      · skip
        refine lv_aload_n hx hb dX4_set_47 rfl (lv_at hl 0 rfl) ?_
        refine va_get (D := D) (ci := 4) (v := .ref hc) (C := RX4) (T := TX4) (N := 6) hx hb hts hi4 hown hK hP 0 rfl rfl 0 (by decide) hf10 (fun _ h9 => h9) rfl dX4_set_48 ?_
        refine va_get (D := D) (ci := 0) (v := .int (oc.1 1)) (C := RX0) (T := TX0) (N := 12) hx hb hts hi0 hown hK hP 1 rfl rfl 1 (by decide) hf85 (fun _ h9 => h9) rfl dX4_set_51 ?_
        refine lv_istore_n (lv' := [(3, .int (oc.1 1)), (0, .ref hq), (1, .int p0), (2, .int p1)]) hx hb dX4_set_54 rfl hl (by decide) rfl (fun ls hl => ?_)
        refine lv_aload_n hx hb dX4_set_55 rfl (lv_at hl 1 rfl) ?_
        refine va_get (D := D) (ci := 4) (v := .ref hc) (C := RX4) (T := TX4) (N := 6) hx hb hts hi4 hown hK hP 0 rfl rfl 0 (by decide) hf10 (fun _ h9 => h9) rfl dX4_set_56 ?_
        refine lv_iload_n hx hb dX4_set_59 rfl (lv_at hl 3 rfl) ?_
        refine va_put (D := D) (ci := 0) (v := .int p1) (ty := .int) (C := RX0) (T := TX0) (N := 12) hx hb hts hi0 tyX0 tyX0_ok nmX0 hown hK hP hD hS 1 rfl rfl 1 (by decide) hf85 (fun _ h9 => h9) rfl (by decide +kernel) rfl rfl (Nat.le_of_ble_eq_true rfl) dX4_set_60 (fun H locs hP hD hS => ?_)
        have hP : va_P D vwCl (wX4 hq hc hu hi hg hy hw ++ wX0 cI hc ac (us oc 1 p1)) H := hP
        have hD : va_D A (wX4 hq hc hu hi hg hy hw ++ wX0 cI hc ac (us oc 1 p1)) := hD
        refine lv_iload_n hx hb dX4_set_63 rfl (lv_at hl 0 rfl) ?_
        have e9 : fX4_set oc p0 p1 = ((oc.1 1), (us oc 1 p1)) := by
          simp only [fX4_set, if_neg c1, if_pos c2, if_neg c3]
        exact W.iret hx hb hr (fun t ht hW => ⟨⟨_, (us oc 1 p1), rfl, ⟨by rw [e9], by rw [e9]⟩, ⟨by rw [ht]; exact hP, hD⟩⟩, hS.F ht⟩) hS.2.2 dX4_set_64
  · skip
    refine lv_iload_n hx hb dX4_set_4 rfl (lv_at hl 2 rfl) ?_
    refine lv_iconst (v := 1) hx hb dX4_set_5 (by decide) ?_
    refine lv_bipush (v := 9) hx hb dX4_set_6 (by decide) ?_
    refine rcSi (As := [.int p1, .int 1, .int 9]) (rest := []) hSF (kX4_within l D cI cZ cC p1 1 9) (va_cwS 3 hts gX4_set_X4_within rfl rfl rfl (by decide +kernel) ⟨Nat.le_of_ble_eq_true rfl, Nat.le_of_ble_eq_true rfl⟩) (hP.sub [] rfl) hK hN rfl rfl hl.1 (Nat.le_of_ble_eq_true rfl) dX4_set_8 ⟨Nat.zero_le _, Nat.zero_le _⟩ ?_
    refine lv_if_eq (tgt := 32) hx hb dX4_set_11 (by decide) (fun c4 => ?_) (fun c4 => ?_)
    · skip
      refine lv_iload_n hx hb dX4_set_32 rfl (lv_at hl 1 rfl) ?_
      refine lv_iconst (v := 1) hx hb dX4_set_33 (by decide) ?_
      refine lv_icmp_ne (tgt := 65) hx hb dX4_set_34 (by decide) (fun c5 => ?_) (fun c5 => ?_)
      · skip
        refine lv_bipush (v := (-2)) hx hb dX4_set_65 (by decide) ?_
        have e9 : fX4_set oc p0 p1 = (((-2) : Int32), oc) := by
          simp only [fX4_set, if_pos c1, if_pos c4, if_neg c5]
        exact W.iret hx hb hr (fun t ht hW => ⟨⟨_, oc, rfl, ⟨by rw [e9], by rw [e9]⟩, ⟨by rw [ht]; exact hP, hD⟩⟩, hS.F ht⟩) hS.2.2 dX4_set_67
      · skip
        refine lv_iload_n hx hb dX4_set_37 rfl (lv_at hl 2 rfl) ?_
        refine lv_iconst (v := 0) hx hb dX4_set_38 (by decide) ?_
        refine lv_bipush (v := 9) hx hb dX4_set_39 (by decide) ?_
        refine rcSi (As := [.int p1, .int 0, .int 9]) (rest := []) hSF (kX4_within l D cI cZ cC p1 0 9) (va_cwS 3 hts gX4_set_X4_within rfl rfl rfl (by decide +kernel) ⟨Nat.le_of_ble_eq_true rfl, Nat.le_of_ble_eq_true rfl⟩) (hP.sub [] rfl) hK hN rfl rfl hl.1 (Nat.le_of_ble_eq_true rfl) dX4_set_41 ⟨Nat.zero_le _, Nat.zero_le _⟩ ?_
        refine lv_if_eq (tgt := 65) hx hb dX4_set_44 (by decide) (fun c6 => ?_) (fun c6 => ?_)
        · skip
          refine lv_bipush (v := (-2)) hx hb dX4_set_65 (by decide) ?_
          have e9 : fX4_set oc p0 p1 = (((-2) : Int32), oc) := by
            simp only [fX4_set, if_pos c1, if_pos c4, if_pos c5, if_pos c6]
          exact W.iret hx hb hr (fun t ht hW => ⟨⟨_, oc, rfl, ⟨by rw [e9], by rw [e9]⟩, ⟨by rw [ht]; exact hP, hD⟩⟩, hS.F ht⟩) hS.2.2 dX4_set_67
        · skip
          refine lv_aload_n hx hb dX4_set_47 rfl (lv_at hl 0 rfl) ?_
          refine va_get (D := D) (ci := 4) (v := .ref hc) (C := RX4) (T := TX4) (N := 6) hx hb hts hi4 hown hK hP 0 rfl rfl 0 (by decide) hf10 (fun _ h9 => h9) rfl dX4_set_48 ?_
          refine va_get (D := D) (ci := 0) (v := .int (oc.1 1)) (C := RX0) (T := TX0) (N := 12) hx hb hts hi0 hown hK hP 1 rfl rfl 1 (by decide) hf85 (fun _ h9 => h9) rfl dX4_set_51 ?_
          refine lv_istore_n (lv' := [(3, .int (oc.1 1)), (0, .ref hq), (1, .int p0), (2, .int p1)]) hx hb dX4_set_54 rfl hl (by decide) rfl (fun ls hl => ?_)
          refine lv_aload_n hx hb dX4_set_55 rfl (lv_at hl 1 rfl) ?_
          refine va_get (D := D) (ci := 4) (v := .ref hc) (C := RX4) (T := TX4) (N := 6) hx hb hts hi4 hown hK hP 0 rfl rfl 0 (by decide) hf10 (fun _ h9 => h9) rfl dX4_set_56 ?_
          refine lv_iload_n hx hb dX4_set_59 rfl (lv_at hl 3 rfl) ?_
          refine va_put (D := D) (ci := 0) (v := .int p1) (ty := .int) (C := RX0) (T := TX0) (N := 12) hx hb hts hi0 tyX0 tyX0_ok nmX0 hown hK hP hD hS 1 rfl rfl 1 (by decide) hf85 (fun _ h9 => h9) rfl (by decide +kernel) rfl rfl (Nat.le_of_ble_eq_true rfl) dX4_set_60 (fun H locs hP hD hS => ?_)
          have hP : va_P D vwCl (wX4 hq hc hu hi hg hy hw ++ wX0 cI hc ac (us oc 1 p1)) H := hP
          have hD : va_D A (wX4 hq hc hu hi hg hy hw ++ wX0 cI hc ac (us oc 1 p1)) := hD
          refine lv_iload_n hx hb dX4_set_63 rfl (lv_at hl 0 rfl) ?_
          have e9 : fX4_set oc p0 p1 = ((oc.1 1), (us oc 1 p1)) := by
            simp only [fX4_set, if_pos c1, if_pos c4, if_pos c5, if_neg c6]
          exact W.iret hx hb hr (fun t ht hW => ⟨⟨_, (us oc 1 p1), rfl, ⟨by rw [e9], by rw [e9]⟩, ⟨by rw [ht]; exact hP, hD⟩⟩, hS.F ht⟩) hS.2.2 dX4_set_64
    · skip
      refine lv_aload_n hx hb dX4_set_14 rfl (lv_at hl 0 rfl) ?_
      refine va_get (D := D) (ci := 4) (v := .ref hc) (C := RX4) (T := TX4) (N := 6) hx hb hts hi4 hown hK hP 0 rfl rfl 0 (by decide) hf10 (fun _ h9 => h9) rfl dX4_set_15 ?_
      refine va_get (D := D) (ci := 0) (v := .int (oc.1 0)) (C := RX0) (T := TX0) (N := 12) hx hb hts hi0 hown hK hP 1 rfl rfl 0 (by decide) hf82 (fun _ h9 => h9) rfl dX4_set_18 ?_
      refine lv_istore_n (lv' := [(3, .int (oc.1 0)), (0, .ref hq), (1, .int p0), (2, .int p1)]) hx hb dX4_set_21 rfl hl (by decide) rfl (fun ls hl => ?_)
      refine lv_aload_n hx hb dX4_set_22 rfl (lv_at hl 1 rfl) ?_
      refine va_get (D := D) (ci := 4) (v := .ref hc) (C := RX4) (T := TX4) (N := 6) hx hb hts hi4 hown hK hP 0 rfl rfl 0 (by decide) hf10 (fun _ h9 => h9) rfl dX4_set_23 ?_
      refine lv_iload_n hx hb dX4_set_26 rfl (lv_at hl 3 rfl) ?_
      refine va_put (D := D) (ci := 0) (v := .int p1) (ty := .int) (C := RX0) (T := TX0) (N := 12) hx hb hts hi0 tyX0 tyX0_ok nmX0 hown hK hP hD hS 1 rfl rfl 0 (by decide) hf82 (fun _ h9 => h9) rfl (by decide +kernel) rfl rfl (Nat.le_of_ble_eq_true rfl) dX4_set_27 (fun H locs hP hD hS => ?_)
      have hP : va_P D vwCl (wX4 hq hc hu hi hg hy hw ++ wX0 cI hc ac (us oc 0 p1)) H := hP
      have hD : va_D A (wX4 hq hc hu hi hg hy hw ++ wX0 cI hc ac (us oc 0 p1)) := hD
      refine lv_iload_n hx hb dX4_set_30 rfl (lv_at hl 0 rfl) ?_
      have e9 : fX4_set oc p0 p1 = ((oc.1 0), (us oc 0 p1)) := by
        simp only [fX4_set, if_pos c1, if_neg c4]
      exact W.iret hx hb hr (fun t ht hW => ⟨⟨_, (us oc 0 p1), rfl, ⟨by rw [e9], by rw [e9]⟩, ⟨by rw [ht]; exact hP, hD⟩⟩, hS.F ht⟩) hS.2.2 dX4_set_31

set_option maxHeartbeats 4000000 in
set_option maxRecDepth 100000 in
theorem kX4_say (l : Launch) (D : va_G) (cI cZ cC : ClassId) (hq hc hu hi hy hw : Nat) (hg : Nat) (ag : Nat → Nat) (og : OV) (p0 : Int32)  {sz : Nat} : Met l yX4_say wsX4_say ({ frames := 2, cells := 0, slots := 0, locals := 43 }) (pW D (tyv cI cZ cC) (wX4 hq hc hu hi hg hy hw ++ wX2 cI hg ag og) sz [.ref hq, .int p0]) (va_Qi (fun r (u : OV) => r = (fX4_say og p0).1 ∧ u = (fX4_say og p0).2) (qW D (fun (u : OV) => wX4 hq hc hu hi hg hy hw ++ wX2 cI hg ag u) (va_A (wX4 hq hc hu hi hg hy hw ++ wX2 cI hg ag og) sz)) (va_A (wX4 hq hc hu hi hg hy hw ++ wX2 cI hg ag og) sz)) 0 0 (va_A (wX4 hq hc hu hi hg hy hw ++ wX2 cI hg ag og) sz) := by
  refine Met.ofW (cc := cX4_say) (maxL := 2) (ret := (some .int)) (by decide) rfl ?_
  intro p e s m args below meth c s₁ B hml hv
  obtain ⟨rfl, hsz, hP, hK, hN, hD0⟩ := hv
  have hx := B.exec
  have hb := B.bytes
  have hr := B.returns
  have hts := atoms_spec (ws := wsX4_say) B.pre
  have hown : s.vm.findClass RX4 = some m.cls := findClass_of_methodNamed B.named
  have hlocks := B.notSynchronized
  subst hsz
  have hD := hD0.self (sz := s.heap.size)
  generalize hAe : va_A (wX4 hq hc hu hi hg hy hw ++ wX2 cI hg ag og) s.heap.size = A at hD ⊢
  have hA : ∀ q : Nat, s.heap.size ≤ q → A q := fun q h => by rw [← hAe]; exact Or.inr h
  have hS : va_S A s.heap s.heap [] := va_S.rf
  have hP : va_P D vwCl (wX4 hq hc hu hi hg hy hw ++ wX2 cI hg ag og) s.heap := hP
  have hl := lv_entry ([.ref hq, .int p0]) (n := 2) (Nat.le_of_ble_eq_true rfl)
  rw [lg_entry_eq]
  generalize (lg_sl ([.ref hq, .int p0]) ++ List.replicate (2 - (lg_sl ([.ref hq, .int p0])).length) Slot.unset).toArray = ls at hl ⊢
  have hl : lv_has ls 2 [(0, .ref hq), (1, .int p0)] := hl
  have hSF : CallFix p m c cX4_say 2 s _ wsX4_say RX4 := ⟨hx, hb, hml, hown, hts⟩
  have hi4 : ∀ w ∈ wsX40, w ∈ wsX4_say := by decide +kernel
  have hf26 : (Cond.fieldLink RX4 26 "UmbrellaVote" "pad" "LUmbrellaVote$Pad;").before _ s = true := hts _ (by decide +kernel)
  have hi2 : ∀ w ∈ wsX20, w ∈ wsX4_say := by decide +kernel
  have hf91 : (Cond.fieldLink RX4 91 "UmbrellaVote$Pad" "count" "I").before _ s = true := hts _ (by decide +kernel)
  refine lv_iload_n hx hb dX4_say_0 rfl (lv_at hl 1 rfl) ?_
  refine lv_bipush (v := 33) hx hb dX4_say_1 (by decide) ?_
  refine lv_bipush (v := 126) hx hb dX4_say_3 (by decide) ?_
  refine rcSi (As := [.int p0, .int 33, .int 126]) (rest := []) hSF (kX4_within l D cI cZ cC p0 33 126) (va_cwS 3 hts gX4_say_X4_within rfl rfl rfl (by decide +kernel) ⟨Nat.le_of_ble_eq_true rfl, Nat.le_of_ble_eq_true rfl⟩) (hP.sub [] rfl) hK hN rfl rfl hl.1 (Nat.le_of_ble_eq_true rfl) dX4_say_5 ⟨Nat.zero_le _, Nat.zero_le _⟩ ?_
  refine lv_if_ne (tgt := 14) hx hb dX4_say_8 (by decide) (fun c1 => ?_) (fun c1 => ?_)
  · skip
    refine lv_aload_n hx hb dX4_say_14 rfl (lv_at hl 0 rfl) ?_
    refine va_get (D := D) (ci := 4) (v := .ref hg) (C := RX4) (T := TX4) (N := 6) hx hb hts hi4 hown hK hP 0 rfl rfl 3 (by decide) hf26 (fun _ h9 => h9) rfl dX4_say_15 ?_
    refine lv_iload_n hx hb dX4_say_18 rfl (lv_at hl 1 rfl) ?_
    refine wcVi (b := hg) (As := [.int p0]) (rest := []) (wr := [(hq, .inr (4, [.ref hc, .ref hu, .ref hi, .ref hg, .ref hy, .ref hw]))]) (ws' := wX4 hq hc hu hi hg hy hw ++ wX2 cI hg ag (fX2_write og p0).2) hSF (kX2_write l D cI cZ cC hg ag og p0) (cwV 1 hts gX4_say_X2_write rfl rfl rfl (by decide +kernel) ⟨Nat.le_of_ble_eq_true rfl, Nat.le_of_ble_eq_true rfl⟩) (va_recv hK hP (ci := 2) (q0 := 1) rfl rfl) hP hD hS hA hK hN [1, 2] [0] [0, 1, 2] rfl (by decide) rfl (by decide) (by decide) rfl (by decide) rfl rfl hl.1 (Nat.le_of_ble_eq_true rfl) dX4_say_19 ⟨Nat.zero_le _, Nat.zero_le _⟩ (fun H locs hP hD hS => ?_)
    refine W_itei (P := (fX2_write og p0).1 = 0) (a := (-4)) (b := ((fX2_write og p0).2.1 1)) (J := 37) (ls9 := ls) (rest9 := []) (fun ja3 jb3 => ?_) ?_
    · refine lv_if_eq (tgt := 35) hx hb dX4_say_22 (by decide) (fun c2 => ?_) (fun c2 => ?_)
      · skip
        refine lv_bipush (v := (-4)) hx hb dX4_say_35 (by decide) ?_
        exact ja3 c2
      · skip
        refine lv_aload_n hx hb dX4_say_25 rfl (lv_at hl 0 rfl) ?_
        refine va_get (D := D) (ci := 4) (v := .ref hg) (C := RX4) (T := TX4) (N := 6) hx hb hts hi4 hown hK hP 0 rfl rfl 3 (by decide) hf26 (fun _ h9 => h9) rfl dX4_say_26 ?_
        refine va_get (D := D) (ci := 2) (v := .int ((fX2_write og p0).2.1 1)) (C := RX2) (T := TX2) (N := 2) hx hb hts hi2 hown hK hP 1 rfl rfl 1 (by decide) hf91 (fun _ h9 => h9) rfl dX4_say_29 ?_
        refine lv_goto (tgt := 37) hx hb dX4_say_32 (by decide) ?_
        exact jb3 c2
    have e9 : fX4_say og p0 = ((if (fX2_write og p0).1 = 0 then ((-4) : Int32) else ((fX2_write og p0).2.1 1)), (fX2_write og p0).2) := by
      simp only [fX4_say, if_neg c1]
    exact W.iret hx hb hr (fun t ht hW => ⟨⟨_, (fX2_write og p0).2, rfl, ⟨by rw [e9], by rw [e9]⟩, ⟨by rw [ht]; exact hP, hD⟩⟩, hS.F ht⟩) hS.2.2 dX4_say_37
  · skip
    refine lv_bipush (v := (-2)) hx hb dX4_say_11 (by decide) ?_
    have e9 : fX4_say og p0 = (((-2) : Int32), og) := by
      simp only [fX4_say, if_pos c1]
    exact W.iret hx hb hr (fun t ht hW => ⟨⟨_, og, rfl, ⟨by rw [e9], by rw [e9]⟩, ⟨by rw [ht]; exact hP, hD⟩⟩, hS.F ht⟩) hS.2.2 dX4_say_13

set_option maxHeartbeats 4000000 in
set_option maxRecDepth 100000 in
theorem kX4_wipe (l : Launch) (D : va_G) (cI cZ cC : ClassId) (hq hc hu hi hy hw : Nat) (hg : Nat) (ag : Nat → Nat) (og : OV)   {sz : Nat} : Met l yX4_wipe wsX4_wipe ({ frames := 0, cells := 0, slots := 0, locals := 0 }) (pW D (tyv cI cZ cC) (wX4 hq hc hu hi hg hy hw ++ wX2 cI hg ag og) sz [.ref hq]) (va_Qi (fun r (u : OV) => r = (fX4_wipe og).1 ∧ u = (fX4_wipe og).2) (qW D (fun (u : OV) => wX4 hq hc hu hi hg hy hw ++ wX2 cI hg ag u) (va_A (wX4 hq hc hu hi hg hy hw ++ wX2 cI hg ag og) sz)) (va_A (wX4 hq hc hu hi hg hy hw ++ wX2 cI hg ag og) sz)) 0 0 (va_A (wX4 hq hc hu hi hg hy hw ++ wX2 cI hg ag og) sz) := by
  refine Met.ofW (cc := cX4_wipe) (maxL := 2) (ret := (some .int)) (by decide) rfl ?_
  intro p e s m args below meth c s₁ B hml hv
  obtain ⟨rfl, hsz, hP, hK, hN, hD0⟩ := hv
  have hx := B.exec
  have hb := B.bytes
  have hr := B.returns
  have hts := atoms_spec (ws := wsX4_wipe) B.pre
  have hown : s.vm.findClass RX4 = some m.cls := findClass_of_methodNamed B.named
  have hlocks := B.notSynchronized
  subst hsz
  have hD := hD0.self (sz := s.heap.size)
  generalize hAe : va_A (wX4 hq hc hu hi hg hy hw ++ wX2 cI hg ag og) s.heap.size = A at hD ⊢
  have hA : ∀ q : Nat, s.heap.size ≤ q → A q := fun q h => by rw [← hAe]; exact Or.inr h
  have hS : va_S A s.heap s.heap [] := va_S.rf
  have hP : va_P D vwCl (wX4 hq hc hu hi hg hy hw ++ wX2 cI hg ag og) s.heap := hP
  have hl := lv_entry ([.ref hq]) (n := 2) (Nat.le_of_ble_eq_true rfl)
  rw [lg_entry_eq]
  generalize (lg_sl ([.ref hq]) ++ List.replicate (2 - (lg_sl ([.ref hq])).length) Slot.unset).toArray = ls at hl ⊢
  have hl : lv_has ls 2 [(0, .ref hq)] := hl
  have hSF : CallFix p m c cX4_wipe 2 s _ wsX4_wipe RX4 := ⟨hx, hb, hml, hown, hts⟩
  have hi4 : ∀ w ∈ wsX40, w ∈ wsX4_wipe := by decide +kernel
  have hf26 : (Cond.fieldLink RX4 26 "UmbrellaVote" "pad" "LUmbrellaVote$Pad;").before _ s = true := hts _ (by decide +kernel)
  have hi2 : ∀ w ∈ wsX20, w ∈ wsX4_wipe := by decide +kernel
  have hf91 : (Cond.fieldLink RX4 91 "UmbrellaVote$Pad" "count" "I").before _ s = true := hts _ (by decide +kernel)
  refine lv_aload_n hx hb dX4_wipe_0 rfl (lv_at hl 0 rfl) ?_
  refine va_get (D := D) (ci := 4) (v := .ref hg) (C := RX4) (T := TX4) (N := 6) hx hb hts hi4 hown hK hP 0 rfl rfl 3 (by decide) hf26 (fun _ h9 => h9) rfl dX4_wipe_1 ?_
  refine va_get (D := D) (ci := 2) (v := .int (og.1 1)) (C := RX2) (T := TX2) (N := 2) hx hb hts hi2 hown hK hP 1 rfl rfl 1 (by decide) hf91 (fun _ h9 => h9) rfl dX4_wipe_4 ?_
  refine lv_istore_n (lv' := [(1, .int (og.1 1)), (0, .ref hq)]) hx hb dX4_wipe_7 rfl hl (by decide) rfl (fun ls hl => ?_)
  refine lv_aload_n hx hb dX4_wipe_8 rfl (lv_at hl 1 rfl) ?_
  refine va_get (D := D) (ci := 4) (v := .ref hg) (C := RX4) (T := TX4) (N := 6) hx hb hts hi4 hown hK hP 0 rfl rfl 3 (by decide) hf26 (fun _ h9 => h9) rfl dX4_wipe_9 ?_
  refine lv_iconst (v := 0) hx hb dX4_wipe_12 (by decide) ?_
  refine va_put (D := D) (ci := 2) (v := .int 0) (ty := .int) (C := RX2) (T := TX2) (N := 2) hx hb hts hi2 tyX2 tyX2_ok nmX2 hown hK hP hD hS 1 rfl rfl 1 (by decide) hf91 (fun _ h9 => h9) rfl (by decide +kernel) rfl rfl (Nat.le_of_ble_eq_true rfl) dX4_wipe_13 (fun H locs hP hD hS => ?_)
  have hP : va_P D vwCl (wX4 hq hc hu hi hg hy hw ++ wX2 cI hg ag (us og 1 0)) H := hP
  have hD : va_D A (wX4 hq hc hu hi hg hy hw ++ wX2 cI hg ag (us og 1 0)) := hD
  refine lv_iload_n hx hb dX4_wipe_16 rfl (lv_at hl 0 rfl) ?_
  have e9 : fX4_wipe og = ((og.1 1), (us og 1 0)) := by
    rfl
  exact W.iret hx hb hr (fun t ht hW => ⟨⟨_, (us og 1 0), rfl, ⟨by rw [e9], by rw [e9]⟩, ⟨by rw [ht]; exact hP, hD⟩⟩, hS.F ht⟩) hS.2.2 dX4_wipe_17

set_option maxHeartbeats 4000000 in
set_option maxRecDepth 100000 in
theorem kX4_fault (l : Launch) (D : va_G) (cI cZ cC : ClassId) (hq hc hu hi hy hw : Nat) (hg : Nat) (ag : Nat → Nat) (og : OV)  (hn : (og.1 1).toNatClampNeg ≤ 40 ∧ og.1 1 = nI (og.1 1).toNatClampNeg) : Met l yX4_fault wsX4_fault ({ frames := 3, cells := 0, slots := 0, locals := 67 }) (pR D (tyv cI cZ cC) (wX4 hq hc hu hi hg hy hw ++ wX2 cI hg ag og) [.ref hq]) (vp_Si (fun r => r = fX4_fault og)) 0 0 (fun _ => False) := by
  refine Met.ofW (cc := cX4_fault) (maxL := 1) (ret := (some .int)) (by decide) rfl ?_
  intro p e s m args below meth c s₁ B hml hv
  obtain ⟨rfl, hP, hK, hN⟩ := hv
  have hx := B.exec
  have hb := B.bytes
  have hr := B.returns
  have hts := atoms_spec (ws := wsX4_fault) B.pre
  have hown : s.vm.findClass RX4 = some m.cls := findClass_of_methodNamed B.named
  have hlocks := B.notSynchronized
  have hP : va_P D vwCl (wX4 hq hc hu hi hg hy hw ++ wX2 cI hg ag og) s.heap := hP
  have hl := lv_entry ([.ref hq]) (n := 1) (Nat.le_of_ble_eq_true rfl)
  rw [lg_entry_eq]
  generalize (lg_sl ([.ref hq]) ++ List.replicate (1 - (lg_sl ([.ref hq])).length) Slot.unset).toArray = ls at hl ⊢
  have hl : lv_has ls 1 [(0, .ref hq)] := hl
  have hSF : CallFix p m c cX4_fault 1 s _ wsX4_fault RX4 := ⟨hx, hb, hml, hown, hts⟩
  have hi4 : ∀ w ∈ wsX40, w ∈ wsX4_fault := by decide +kernel
  have hf26 : (Cond.fieldLink RX4 26 "UmbrellaVote" "pad" "LUmbrellaVote$Pad;").before _ s = true := hts _ (by decide +kernel)
  refine lv_aload_n hx hb dX4_fault_0 rfl (lv_at hl 0 rfl) ?_
  refine va_get (D := D) (ci := 4) (v := .ref hg) (C := RX4) (T := TX4) (N := 6) hx hb hts hi4 hown hK hP 0 rfl rfl 3 (by decide) hf26 (fun _ h9 => h9) rfl dX4_fault_1 ?_
  refine rcVi (b := hg) (As := []) (rest := []) hSF (kX2_firstFault l D cI cZ cC hg ag og hn) (cwV 0 hts gX4_fault_X2_firstFault rfl rfl rfl (by decide +kernel) ⟨Nat.le_of_ble_eq_true rfl, Nat.le_of_ble_eq_true rfl⟩) (va_recv hK hP (ci := 2) (q0 := 1) rfl rfl) (hP.sub [1, 2] rfl) hK hN rfl rfl hl.1 (Nat.le_of_ble_eq_true rfl) dX4_fault_4 ⟨Nat.zero_le _, Nat.zero_le _⟩ ?_
  have e9 : fX4_fault og = (fX2_firstFault og) := by
    rfl
  exact W.iret hx hb hr (fun t ht hW => ⟨_, rfl, e9.symm, ht⟩) (fun _ h9 => absurd h9 List.not_mem_nil) dX4_fault_7

set_option maxHeartbeats 4000000 in
set_option maxRecDepth 100000 in
theorem kX4_rules (l : Launch) (D : va_G) (cI cZ cC : ClassId) (hq hu hi hg hy hw : Nat) (hc : Nat) (ac : Nat → Nat) (oc : OV) (p0 : Int32) (p1 : Int32)  : Met l yX4_rules wsX4_rules ({ frames := 4, cells := 0, slots := 0, locals := 92 }) (pR D (tyv cI cZ cC) (wX4 hq hc hu hi hg hy hw ++ wX0 cI hc ac oc) [.ref hq, .int p0, .int p1]) (vp_Si (fun r => r = fX4_rules oc p0 p1)) 0 0 (fun _ => False) := by
  refine Met.ofW (cc := cX4_rules) (maxL := 4) (ret := (some .int)) (by decide) rfl ?_
  intro p e s m args below meth c s₁ B hml hv
  obtain ⟨rfl, hP, hK, hN⟩ := hv
  have hx := B.exec
  have hb := B.bytes
  have hr := B.returns
  have hts := atoms_spec (ws := wsX4_rules) B.pre
  have hown : s.vm.findClass RX4 = some m.cls := findClass_of_methodNamed B.named
  have hlocks := B.notSynchronized
  have hP : va_P D vwCl (wX4 hq hc hu hi hg hy hw ++ wX0 cI hc ac oc) s.heap := hP
  have hl := lv_entry ([.ref hq, .int p0, .int p1]) (n := 4) (Nat.le_of_ble_eq_true rfl)
  rw [lg_entry_eq]
  generalize (lg_sl ([.ref hq, .int p0, .int p1]) ++ List.replicate (4 - (lg_sl ([.ref hq, .int p0, .int p1])).length) Slot.unset).toArray = ls at hl ⊢
  have hl : lv_has ls 4 [(0, .ref hq), (1, .int p0), (2, .int p1)] := hl
  have hSF : CallFix p m c cX4_rules 4 s _ wsX4_rules RX4 := ⟨hx, hb, hml, hown, hts⟩
  have hi4 : ∀ w ∈ wsX40, w ∈ wsX4_rules := by decide +kernel
  have hf10 : (Cond.fieldLink RX4 10 "UmbrellaVote" "city" "LUmbrellaVote$City;").before _ s = true := hts _ (by decide +kernel)
  refine lv_iload_n hx hb dX4_rules_0 rfl (lv_at hl 1 rfl) ?_
  refine rcSi (As := [.int p0]) (rest := []) hSF (kX4_isPlace l D cI cZ cC p0) (va_cwS 1 hts gX4_rules_X4_isPlace rfl rfl rfl (by decide +kernel) ⟨Nat.le_of_ble_eq_true rfl, Nat.le_of_ble_eq_true rfl⟩) (hP.sub [] rfl) hK hN rfl rfl hl.1 (Nat.le_of_ble_eq_true rfl) dX4_rules_1 ⟨Nat.zero_le _, Nat.zero_le _⟩ ?_
  refine lv_if_ne (tgt := 9) hx hb dX4_rules_4 (by decide) (fun c1 => ?_) (fun c1 => ?_)
  · skip
    refine lv_iload_n hx hb dX4_rules_9 rfl (lv_at hl 2 rfl) ?_
    refine lv_iconst (v := 0) hx hb dX4_rules_10 (by decide) ?_
    refine lv_iconst (v := 1) hx hb dX4_rules_11 (by decide) ?_
    refine rcSi (As := [.int p1, .int 0, .int 1]) (rest := []) hSF (kX4_within l D cI cZ cC p1 0 1) (va_cwS 3 hts gX4_rules_X4_within rfl rfl rfl (by decide +kernel) ⟨Nat.le_of_ble_eq_true rfl, Nat.le_of_ble_eq_true rfl⟩) (hP.sub [] rfl) hK hN rfl rfl hl.1 (Nat.le_of_ble_eq_true rfl) dX4_rules_12 ⟨Nat.zero_le _, Nat.zero_le _⟩ ?_
    refine lv_if_ne (tgt := 21) hx hb dX4_rules_15 (by decide) (fun c2 => ?_) (fun c2 => ?_)
    · skip
      refine lv_aload_n hx hb dX4_rules_21 rfl (lv_at hl 0 rfl) ?_
      refine va_get (D := D) (ci := 4) (v := .ref hc) (C := RX4) (T := TX4) (N := 6) hx hb hts hi4 hown hK hP 0 rfl rfl 0 (by decide) hf10 (fun _ h9 => h9) rfl dX4_rules_22 ?_
      refine lv_iload_n hx hb dX4_rules_25 rfl (lv_at hl 1 rfl) ?_
      refine rcVi (b := hc) (As := [.int p0]) (rest := []) hSF (kX0_rulers l D cI cZ cC hc ac oc p0) (cwV 1 hts gX4_rules_X0_rulers rfl rfl rfl (by decide +kernel) ⟨Nat.le_of_ble_eq_true rfl, Nat.le_of_ble_eq_true rfl⟩) (va_recv hK hP (ci := 0) (q0 := 1) rfl rfl) (hP.sub [1, 2, 3, 4, 5, 6] rfl) hK hN rfl rfl hl.1 (Nat.le_of_ble_eq_true rfl) dX4_rules_26 ⟨Nat.zero_le _, Nat.zero_le _⟩ ?_
      refine lv_istore_n (lv' := [(3, .int (fX0_rulers oc p0)), (0, .ref hq), (1, .int p0), (2, .int p1)]) hx hb dX4_rules_29 rfl hl (by decide) rfl (fun ls hl => ?_)
      refine lv_iload_n hx hb dX4_rules_30 rfl (lv_at hl 0 rfl) ?_
      refine lv_if_ne (tgt := 37) hx hb dX4_rules_31 (by decide) (fun c3 => ?_) (fun c3 => ?_)
      · skip
        refine lv_iload_n hx hb dX4_rules_37 rfl (lv_at hl 3 rfl) ?_
        refine W_itei (P := p1 = 0) (a := (fX0_rulers oc p0)) (b := (fX0_openTime oc (fX4_firstPerson (fX0_rulers oc p0)) p0)) (J := 57) (ls9 := ls) (rest9 := []) (fun ja5 jb5 => ?_) ?_
        · refine lv_if_ne (tgt := 45) hx hb dX4_rules_38 (by decide) (fun c4 => ?_) (fun c4 => ?_)
          · skip
            refine lv_aload_n hx hb dX4_rules_45 rfl (lv_at hl 1 rfl) ?_
            refine va_get (D := D) (ci := 4) (v := .ref hc) (C := RX4) (T := TX4) (N := 6) hx hb hts hi4 hown hK hP 0 rfl rfl 0 (by decide) hf10 (fun _ h9 => h9) rfl dX4_rules_46 ?_
            refine lv_iload_n hx hb dX4_rules_49 rfl (lv_at hl 0 rfl) ?_
            refine rcSi (As := [.int (fX0_rulers oc p0)]) (rest := [.ref hc]) hSF (kX4_firstPerson l D cI cZ cC (fX0_rulers oc p0)) (va_cwS 1 hts gX4_rules_X4_firstPerson rfl rfl rfl (by decide +kernel) ⟨Nat.le_of_ble_eq_true rfl, Nat.le_of_ble_eq_true rfl⟩) (hP.sub [] rfl) hK hN rfl rfl hl.1 (Nat.le_of_ble_eq_true rfl) dX4_rules_50 ⟨Nat.zero_le _, Nat.zero_le _⟩ ?_
            refine lv_iload_n hx hb dX4_rules_53 rfl (lv_at hl 2 rfl) ?_
            refine rcVi (b := hc) (As := [.int (fX4_firstPerson (fX0_rulers oc p0)), .int p0]) (rest := []) hSF (kX0_openTime l D cI cZ cC hc ac oc (fX4_firstPerson (fX0_rulers oc p0)) p0) (cwV 2 hts gX4_rules_X0_openTime rfl rfl rfl (by decide +kernel) ⟨Nat.le_of_ble_eq_true rfl, Nat.le_of_ble_eq_true rfl⟩) (va_recv hK hP (ci := 0) (q0 := 1) rfl rfl) (hP.sub [1, 2, 3, 4, 5, 6] rfl) hK hN rfl rfl hl.1 (Nat.le_of_ble_eq_true rfl) dX4_rules_54 ⟨Nat.zero_le _, Nat.zero_le _⟩ ?_
            exact jb5 c4
          · skip
            refine lv_iload_n hx hb dX4_rules_41 rfl (lv_at hl 0 rfl) ?_
            refine lv_goto (tgt := 57) hx hb dX4_rules_42 (by decide) ?_
            exact ja5 c4
        have e9 : fX4_rules oc p0 p1 = (if p1 = 0 then (fX0_rulers oc p0) else (fX0_openTime oc (fX4_firstPerson (fX0_rulers oc p0)) p0)) := by
          simp only [fX4_rules, if_neg c1, if_neg c2, if_neg c3]
        exact W.iret hx hb hr (fun t ht hW => ⟨_, rfl, e9.symm, ht⟩) (fun _ h9 => absurd h9 List.not_mem_nil) dX4_rules_57
      · skip
        refine lv_bipush (v := (-6)) hx hb dX4_rules_34 (by decide) ?_
        have e9 : fX4_rules oc p0 p1 = (-6) := by
          simp only [fX4_rules, if_neg c1, if_neg c2, if_pos c3]
        exact W.iret hx hb hr (fun t ht hW => ⟨_, rfl, e9.symm, ht⟩) (fun _ h9 => absurd h9 List.not_mem_nil) dX4_rules_36
    · skip
      refine lv_bipush (v := (-2)) hx hb dX4_rules_18 (by decide) ?_
      have e9 : fX4_rules oc p0 p1 = (-2) := by
        simp only [fX4_rules, if_neg c1, if_pos c2]
      exact W.iret hx hb hr (fun t ht hW => ⟨_, rfl, e9.symm, ht⟩) (fun _ h9 => absurd h9 List.not_mem_nil) dX4_rules_20
  · skip
    refine lv_iconst (v := (-1)) hx hb dX4_rules_7 (by decide) ?_
    have e9 : fX4_rules oc p0 p1 = (-1) := by
      simp only [fX4_rules, if_pos c1]
    exact W.iret hx hb hr (fun t ht hW => ⟨_, rfl, e9.symm, ht⟩) (fun _ h9 => absurd h9 List.not_mem_nil) dX4_rules_8

set_option maxHeartbeats 4000000 in
set_option maxRecDepth 100000 in
theorem kX4_opens (l : Launch) (D : va_G) (cI cZ cC : ClassId) (hq hu hi hg hy hw : Nat) (hc : Nat) (ac : Nat → Nat) (oc : OV) (p0 : Int32) (p1 : Int32)  : Met l yX4_opens wsX4_opens ({ frames := 3, cells := 0, slots := 0, locals := 67 }) (pR D (tyv cI cZ cC) (wX4 hq hc hu hi hg hy hw ++ wX0 cI hc ac oc) [.ref hq, .int p0, .int p1]) (vp_Si (fun r => r = fX4_opens oc p0 p1)) 0 0 (fun _ => False) := by
  refine Met.ofW (cc := cX4_opens) (maxL := 3) (ret := (some .int)) (by decide) rfl ?_
  intro p e s m args below meth c s₁ B hml hv
  obtain ⟨rfl, hP, hK, hN⟩ := hv
  have hx := B.exec
  have hb := B.bytes
  have hr := B.returns
  have hts := atoms_spec (ws := wsX4_opens) B.pre
  have hown : s.vm.findClass RX4 = some m.cls := findClass_of_methodNamed B.named
  have hlocks := B.notSynchronized
  have hP : va_P D vwCl (wX4 hq hc hu hi hg hy hw ++ wX0 cI hc ac oc) s.heap := hP
  have hl := lv_entry ([.ref hq, .int p0, .int p1]) (n := 3) (Nat.le_of_ble_eq_true rfl)
  rw [lg_entry_eq]
  generalize (lg_sl ([.ref hq, .int p0, .int p1]) ++ List.replicate (3 - (lg_sl ([.ref hq, .int p0, .int p1])).length) Slot.unset).toArray = ls at hl ⊢
  have hl : lv_has ls 3 [(0, .ref hq), (1, .int p0), (2, .int p1)] := hl
  have hSF : CallFix p m c cX4_opens 3 s _ wsX4_opens RX4 := ⟨hx, hb, hml, hown, hts⟩
  have hi4 : ∀ w ∈ wsX40, w ∈ wsX4_opens := by decide +kernel
  have hf10 : (Cond.fieldLink RX4 10 "UmbrellaVote" "city" "LUmbrellaVote$City;").before _ s = true := hts _ (by decide +kernel)
  have hi0 : ∀ w ∈ wsX00, w ∈ wsX4_opens := by decide +kernel
  have hf67 : (Cond.fieldLink RX4 67 "UmbrellaVote$City" "holes" "I").before _ s = true := hts _ (by decide +kernel)
  refine lv_aload_n hx hb dX4_opens_0 rfl (lv_at hl 0 rfl) ?_
  refine va_get (D := D) (ci := 4) (v := .ref hc) (C := RX4) (T := TX4) (N := 6) hx hb hts hi4 hown hK hP 0 rfl rfl 0 (by decide) hf10 (fun _ h9 => h9) rfl dX4_opens_1 ?_
  refine lv_iload_n hx hb dX4_opens_4 rfl (lv_at hl 1 rfl) ?_
  refine rcVi (b := hc) (As := [.int p0]) (rest := []) hSF (kX0_isThere l D cI cZ cC hc ac oc p0) (cwV 1 hts gX4_opens_X0_isThere rfl rfl rfl (by decide +kernel) ⟨Nat.le_of_ble_eq_true rfl, Nat.le_of_ble_eq_true rfl⟩) (va_recv hK hP (ci := 0) (q0 := 1) rfl rfl) (hP.sub [1, 2, 3, 4, 5, 6] rfl) hK hN rfl rfl hl.1 (Nat.le_of_ble_eq_true rfl) dX4_opens_5 ⟨Nat.zero_le _, Nat.zero_le _⟩ ?_
  refine lv_if_eq (tgt := 18) hx hb dX4_opens_8 (by decide) (fun c1 => ?_) (fun c1 => ?_)
  · skip
    refine lv_iconst (v := (-1)) hx hb dX4_opens_18 (by decide) ?_
    have e9 : fX4_opens oc p0 p1 = (-1) := by
      simp only [fX4_opens, if_pos c1]
    exact W.iret hx hb hr (fun t ht hW => ⟨_, rfl, e9.symm, ht⟩) (fun _ h9 => absurd h9 List.not_mem_nil) dX4_opens_19
  · skip
    refine lv_iload_n hx hb dX4_opens_11 rfl (lv_at hl 2 rfl) ?_
    refine rcSi (As := [.int p1]) (rest := []) hSF (kX4_isPlace l D cI cZ cC p1) (va_cwS 1 hts gX4_opens_X4_isPlace rfl rfl rfl (by decide +kernel) ⟨Nat.le_of_ble_eq_true rfl, Nat.le_of_ble_eq_true rfl⟩) (hP.sub [] rfl) hK hN rfl rfl hl.1 (Nat.le_of_ble_eq_true rfl) dX4_opens_12 ⟨Nat.zero_le _, Nat.zero_le _⟩ ?_
    refine lv_if_ne (tgt := 20) hx hb dX4_opens_15 (by decide) (fun c2 => ?_) (fun c2 => ?_)
    · skip
      refine lv_aload_n hx hb dX4_opens_20 rfl (lv_at hl 0 rfl) ?_
      refine va_get (D := D) (ci := 4) (v := .ref hc) (C := RX4) (T := TX4) (N := 6) hx hb hts hi4 hown hK hP 0 rfl rfl 0 (by decide) hf10 (fun _ h9 => h9) rfl dX4_opens_21 ?_
      refine va_get (D := D) (ci := 0) (v := .int (oc.1 3)) (C := RX0) (T := TX0) (N := 12) hx hb hts hi0 hown hK hP 1 rfl rfl 3 (by decide) hf67 (fun _ h9 => h9) rfl dX4_opens_24 ?_
      refine lv_iload_n hx hb dX4_opens_27 rfl (lv_at hl 1 rfl) ?_
      refine rcSi (As := [.int (oc.1 3), .int p0]) (rest := []) hSF (kX4_hasBit l D cI cZ cC (oc.1 3) p0) (va_cwS 2 hts gX4_opens_X4_hasBit rfl rfl rfl (by decide +kernel) ⟨Nat.le_of_ble_eq_true rfl, Nat.le_of_ble_eq_true rfl⟩) (hP.sub [] rfl) hK hN rfl rfl hl.1 (Nat.le_of_ble_eq_true rfl) dX4_opens_28 ⟨Nat.zero_le _, Nat.zero_le _⟩ ?_
      refine W_itei (P := (fX4_hasBit (oc.1 3) p0) = 0) (a := (fX0_openTime oc p0 p1)) (b := (-6)) (J := 48) (ls9 := ls) (rest9 := []) (fun ja4 jb4 => ?_) ?_
      · refine lv_if_eq (tgt := 39) hx hb dX4_opens_31 (by decide) (fun c3 => ?_) (fun c3 => ?_)
        · skip
          refine lv_aload_n hx hb dX4_opens_39 rfl (lv_at hl 0 rfl) ?_
          refine va_get (D := D) (ci := 4) (v := .ref hc) (C := RX4) (T := TX4) (N := 6) hx hb hts hi4 hown hK hP 0 rfl rfl 0 (by decide) hf10 (fun _ h9 => h9) rfl dX4_opens_40 ?_
          refine lv_iload_n hx hb dX4_opens_43 rfl (lv_at hl 1 rfl) ?_
          refine lv_iload_n hx hb dX4_opens_44 rfl (lv_at hl 2 rfl) ?_
          refine rcVi (b := hc) (As := [.int p0, .int p1]) (rest := []) hSF (kX0_openTime l D cI cZ cC hc ac oc p0 p1) (cwV 2 hts gX4_opens_X0_openTime rfl rfl rfl (by decide +kernel) ⟨Nat.le_of_ble_eq_true rfl, Nat.le_of_ble_eq_true rfl⟩) (va_recv hK hP (ci := 0) (q0 := 1) rfl rfl) (hP.sub [1, 2, 3, 4, 5, 6] rfl) hK hN rfl rfl hl.1 (Nat.le_of_ble_eq_true rfl) dX4_opens_45 ⟨Nat.zero_le _, Nat.zero_le _⟩ ?_
          exact ja4 c3
        · skip
          refine lv_bipush (v := (-6)) hx hb dX4_opens_34 (by decide) ?_
          refine lv_goto (tgt := 48) hx hb dX4_opens_36 (by decide) ?_
          exact jb4 c3
      have e9 : fX4_opens oc p0 p1 = (if (fX4_hasBit (oc.1 3) p0) = 0 then (fX0_openTime oc p0 p1) else (-6)) := by
        simp only [fX4_opens, if_neg c1, if_neg c2]
      exact W.iret hx hb hr (fun t ht hW => ⟨_, rfl, e9.symm, ht⟩) (fun _ h9 => absurd h9 List.not_mem_nil) dX4_opens_48
    · skip
      refine lv_iconst (v := (-1)) hx hb dX4_opens_18 (by decide) ?_
      have e9 : fX4_opens oc p0 p1 = (-1) := by
        simp only [fX4_opens, if_neg c1, if_pos c2]
      exact W.iret hx hb hr (fun t ht hW => ⟨_, rfl, e9.symm, ht⟩) (fun _ h9 => absurd h9 List.not_mem_nil) dX4_opens_19

set_option maxHeartbeats 4000000 in
set_option maxRecDepth 100000 in
theorem kX4_never (l : Launch) (D : va_G) (cI cZ cC : ClassId) (hq hu hi hg hy hw : Nat) (hc : Nat) (ac : Nat → Nat) (oc : OV)   : Met l yX4_never wsX4_never ({ frames := 4, cells := 0, slots := 0, locals := 92 }) (pR D (tyv cI cZ cC) (wX4 hq hc hu hi hg hy hw ++ wX0 cI hc ac oc) [.ref hq]) (vp_Si (fun r => r = fX4_never oc)) 0 0 (fun _ => False) := by
  refine Met.ofW (cc := cX4_never) (maxL := 3) (ret := (some .int)) (by decide) rfl ?_
  intro p e s m args below meth c s₁ B hml hv
  obtain ⟨rfl, hP, hK, hN⟩ := hv
  have hx := B.exec
  have hb := B.bytes
  have hr := B.returns
  have hts := atoms_spec (ws := wsX4_never) B.pre
  have hown : s.vm.findClass RX4 = some m.cls := findClass_of_methodNamed B.named
  have hlocks := B.notSynchronized
  have hP : va_P D vwCl (wX4 hq hc hu hi hg hy hw ++ wX0 cI hc ac oc) s.heap := hP
  have hl := lv_entry ([.ref hq]) (n := 3) (Nat.le_of_ble_eq_true rfl)
  rw [lg_entry_eq]
  generalize (lg_sl ([.ref hq]) ++ List.replicate (3 - (lg_sl ([.ref hq])).length) Slot.unset).toArray = ls at hl ⊢
  have hl : lv_has ls 3 [(0, .ref hq)] := hl
  have hSF : CallFix p m c cX4_never 3 s _ wsX4_never RX4 := ⟨hx, hb, hml, hown, hts⟩
  have hi4 : ∀ w ∈ wsX40, w ∈ wsX4_never := by decide +kernel
  have hf10 : (Cond.fieldLink RX4 10 "UmbrellaVote" "city" "LUmbrellaVote$City;").before _ s = true := hts _ (by decide +kernel)
  have hi0 : ∀ w ∈ wsX00, w ∈ wsX4_never := by decide +kernel
  have hf56 : (Cond.fieldLink RX4 56 "UmbrellaVote$City" "there" "I").before _ s = true := hts _ (by decide +kernel)
  refine lv_aload_n hx hb dX4_never_0 rfl (lv_at hl 0 rfl) ?_
  refine va_get (D := D) (ci := 4) (v := .ref hc) (C := RX4) (T := TX4) (N := 6) hx hb hts hi4 hown hK hP 0 rfl rfl 0 (by decide) hf10 (fun _ h9 => h9) rfl dX4_never_1 ?_
  refine va_get (D := D) (ci := 0) (v := .int (oc.1 2)) (C := RX0) (T := TX0) (N := 12) hx hb hts hi0 hown hK hP 1 rfl rfl 2 (by decide) hf56 (fun _ h9 => h9) rfl dX4_never_4 ?_
  refine lv_istore_n (lv' := [(1, .int (oc.1 2)), (0, .ref hq)]) hx hb dX4_never_7 rfl hl (by decide) rfl (fun ls hl => ?_)
  refine lv_iconst (v := 0) hx hb dX4_never_8 (by decide) ?_
  refine lv_istore_n (lv' := [(2, .int 0), (1, .int (oc.1 2)), (0, .ref hq)]) hx hb dX4_never_9 rfl hl (by decide) rfl (fun ls hl => ?_)
  refine W_lpR (10) (fun k9 ls9 => lv_has ls9 3 [(2, .int (nI k9)), (1, .int (fX4_never_L10 oc (oc.1 2) k9)), (0, .ref hq)]) (lv_sub hl [0, 1, 2] rfl) ?_ ?_
  · intro k1 ls hk1 hl ih1
    generalize hs1 : fX4_never_L10 oc (oc.1 2) k1 = y1 at hl
    obtain ⟨x1_1, en1⟩ : ∃ z, z = y1 := ⟨_, rfl⟩
    subst en1
    refine lv_iload_n hx hb dX4_never_10 rfl (lv_at hl 0 rfl) ?_
    refine lv_bipush (v := 10) hx hb dX4_never_11 (by decide) ?_
    refine lv_icmp_ge (tgt := 35) hx hb dX4_never_13 (by decide) (fun c2 => absurd c2 (nI_ge hk1 (by decide))) (fun c2 => ?_)
    refine lv_iload_n hx hb dX4_never_16 rfl (lv_at hl 1 rfl) ?_
    refine lv_aload_n hx hb dX4_never_17 rfl (lv_at hl 2 rfl) ?_
    refine va_get (D := D) (ci := 4) (v := .ref hc) (C := RX4) (T := TX4) (N := 6) hx hb hts hi4 hown hK hP 0 rfl rfl 0 (by decide) hf10 (fun _ h9 => h9) rfl dX4_never_18 ?_
    refine lv_iload_n hx hb dX4_never_21 rfl (lv_at hl 0 rfl) ?_
    refine rcVi (b := hc) (As := [.int (nI k1)]) (rest := [.int x1_1]) hSF (kX0_rulers l D cI cZ cC hc ac oc (nI k1)) (cwV 1 hts gX4_never_X0_rulers rfl rfl rfl (by decide +kernel) ⟨Nat.le_of_ble_eq_true rfl, Nat.le_of_ble_eq_true rfl⟩) (va_recv hK hP (ci := 0) (q0 := 1) rfl rfl) (hP.sub [1, 2, 3, 4, 5, 6] rfl) hK hN rfl rfl hl.1 (Nat.le_of_ble_eq_true rfl) dX4_never_22 ⟨Nat.zero_le _, Nat.zero_le _⟩ ?_
    refine lv_iconst (v := (-1)) hx hb dX4_never_25 (by decide) ?_
    refine lv_ixor hx hb dX4_never_26 ?_
    refine lv_iand hx hb dX4_never_27 ?_
    refine lv_istore_n (lv' := [(1, .int (x1_1 &&& ((fX0_rulers oc (nI k1)) ^^^ (-1)))), (2, .int (nI k1)), (0, .ref hq)]) hx hb dX4_never_28 rfl hl (by decide) rfl (fun ls hl => ?_)
    refine lv_iinc (v := ((nI k1) + 1)) (lv' := [(2, .int ((nI k1) + 1)), (1, .int (x1_1 &&& ((fX0_rulers oc (nI k1)) ^^^ (-1)))), (0, .ref hq)]) hx hb dX4_never_29 hl (k := 1) rfl rfl (by decide) rfl (fun ls hl => ?_)
    refine lv_goto (tgt := 10) hx hb dX4_never_32 (by decide) ?_
    have e8 : fX4_never_L10s oc k1 x1_1 = (x1_1 &&& ((fX0_rulers oc (nI k1)) ^^^ (-1))) := by
      rfl
    have e7 : fX4_never_L10 oc (oc.1 2) (k1 + 1) = (x1_1 &&& ((fX0_rulers oc (nI k1)) ^^^ (-1))) := by
      show fX4_never_L10s oc k1 (fX4_never_L10 oc (oc.1 2) k1) = _
      rw [hs1]; exact e8
    have hl9 : lv_has ls 3 [(2, .int (nI (k1 + 1))), (1, .int (fX4_never_L10 oc (oc.1 2) (k1 + 1))), (0, .ref hq)] := by
      rw [nI_succ, e7]; exact lv_sub hl [0, 1, 2] rfl
    exact ih1 ls hl9
  intro ls hl
  refine lv_iload_n hx hb dX4_never_10 rfl (lv_at hl 0 rfl) ?_
  refine lv_bipush (v := 10) hx hb dX4_never_11 (by decide) ?_
  refine lv_icmp_ge (tgt := 35) hx hb dX4_never_13 (by decide) (fun c3 => ?_) (fun c3 => absurd (nI_le (Nat.le_refl _) (by decide)) c3)
  refine lv_iload_n hx hb dX4_never_35 rfl (lv_at hl 1 rfl) ?_
  have e9 : fX4_never oc = (fX4_never_L10 oc (oc.1 2) (10)) := by
    rfl
  exact W.iret hx hb hr (fun t ht hW => ⟨_, rfl, e9.symm, ht⟩) (fun _ h9 => absurd h9 List.not_mem_nil) dX4_never_36

set_option maxHeartbeats 4000000 in
set_option maxRecDepth 100000 in
theorem kX4_reign (l : Launch) (D : va_G) (cI cZ cC : ClassId) (hq hu hi hw : Nat) (hc : Nat) (ac : Nat → Nat) (oc : OV) (hg : Nat) (ag : Nat → Nat) (og : OV) (hy : Nat) (ay : Nat → Nat) (oy : OV) (hd : Nat) (ad : Nat → Nat) (od : OV) (p0 : Int32) (hn : (og.1 1).toNatClampNeg ≤ 40 ∧ og.1 1 = nI (og.1 1).toNatClampNeg) {sz : Nat} : Met l yX4_reign wsX4_reign ({ frames := 6, cells := 0, slots := 0, locals := 143 }) (pW D (tyv cI cZ cC) (wX4 hq hc hu hi hg hy hw ++ wX0 cI hc ac oc ++ wX2 cI hg ag og ++ wX1 cI hd hy ay oy ++ wX0 cI hd ad od) sz [.ref hq, .int p0]) (va_Qi (fun r (u : OV × OV) => r = (fX4_reign oc og oy od p0).1 ∧ u = (fX4_reign oc og oy od p0).2) (qW D (fun (u : OV × OV) => wX4 hq hc hu hi hg hy hw ++ wX0 cI hc ac oc ++ wX2 cI hg ag og ++ wX1 cI hd hy ay u.2 ++ wX0 cI hd ad u.1) (va_A (wX4 hq hc hu hi hg hy hw ++ wX0 cI hc ac oc ++ wX2 cI hg ag og ++ wX1 cI hd hy ay oy ++ wX0 cI hd ad od) sz)) (va_A (wX4 hq hc hu hi hg hy hw ++ wX0 cI hc ac oc ++ wX2 cI hg ag og ++ wX1 cI hd hy ay oy ++ wX0 cI hd ad od) sz)) 0 0 (va_A (wX4 hq hc hu hi hg hy hw ++ wX0 cI hc ac oc ++ wX2 cI hg ag og ++ wX1 cI hd hy ay oy ++ wX0 cI hd ad od) sz) := by
  refine Met.ofW (cc := cX4_reign) (maxL := 3) (ret := (some .int)) (by decide) rfl ?_
  intro p e s m args below meth c s₁ B hml hv
  obtain ⟨rfl, hsz, hP, hK, hN, hD0⟩ := hv
  have hx := B.exec
  have hb := B.bytes
  have hr := B.returns
  have hts := atoms_spec (ws := wsX4_reign) B.pre
  have hown : s.vm.findClass RX4 = some m.cls := findClass_of_methodNamed B.named
  have hlocks := B.notSynchronized
  subst hsz
  have hD := hD0.self (sz := s.heap.size)
  generalize hAe : va_A (wX4 hq hc hu hi hg hy hw ++ wX0 cI hc ac oc ++ wX2 cI hg ag og ++ wX1 cI hd hy ay oy ++ wX0 cI hd ad od) s.heap.size = A at hD ⊢
  have hA : ∀ q : Nat, s.heap.size ≤ q → A q := fun q h => by rw [← hAe]; exact Or.inr h
  have hS : va_S A s.heap s.heap [] := va_S.rf
  have hP : va_P D vwCl (wX4 hq hc hu hi hg hy hw ++ wX0 cI hc ac oc ++ wX2 cI hg ag og ++ wX1 cI hd hy ay oy ++ wX0 cI hd ad od) s.heap := hP
  have hl := lv_entry ([.ref hq, .int p0]) (n := 3) (Nat.le_of_ble_eq_true rfl)
  rw [lg_entry_eq]
  generalize (lg_sl ([.ref hq, .int p0]) ++ List.replicate (3 - (lg_sl ([.ref hq, .int p0])).length) Slot.unset).toArray = ls at hl ⊢
  have hl : lv_has ls 3 [(0, .ref hq), (1, .int p0)] := hl
  have hSF : CallFix p m c cX4_reign 3 s _ wsX4_reign RX4 := ⟨hx, hb, hml, hown, hts⟩
  have hi4 : ∀ w ∈ wsX40, w ∈ wsX4_reign := by decide +kernel
  have hf26 : (Cond.fieldLink RX4 26 "UmbrellaVote" "pad" "LUmbrellaVote$Pad;").before _ s = true := hts _ (by decide +kernel)
  have hf33 : (Cond.fieldLink RX4 33 "UmbrellaVote" "history" "LUmbrellaVote$History;").before _ s = true := hts _ (by decide +kernel)
  have hf10 : (Cond.fieldLink RX4 10 "UmbrellaVote" "city" "LUmbrellaVote$City;").before _ s = true := hts _ (by decide +kernel)
  have hi1 : ∀ w ∈ wsX10, w ∈ wsX4_reign := by decide +kernel
  have hf119 : (Cond.fieldLink RX4 119 "UmbrellaVote$History" "ruling" "I").before _ s = true := hts _ (by decide +kernel)
  refine lv_aload_n hx hb dX4_reign_0 rfl (lv_at hl 0 rfl) ?_
  refine va_get (D := D) (ci := 4) (v := .ref hg) (C := RX4) (T := TX4) (N := 6) hx hb hts hi4 hown hK hP 0 rfl rfl 3 (by decide) hf26 (fun _ h9 => h9) rfl dX4_reign_1 ?_
  refine rcVi (b := hg) (As := []) (rest := []) hSF (kX2_firstFault l D cI cZ cC hg ag og hn) (cwV 0 hts gX4_reign_X2_firstFault rfl rfl rfl (by decide +kernel) ⟨Nat.le_of_ble_eq_true rfl, Nat.le_of_ble_eq_true rfl⟩) (va_recv hK hP (ci := 2) (q0 := 7) rfl rfl) (hP.sub [7, 8] rfl) hK hN rfl rfl hl.1 (Nat.le_of_ble_eq_true rfl) dX4_reign_4 ⟨Nat.zero_le _, Nat.zero_le _⟩ ?_
  refine lv_bipush (v := (-6)) hx hb dX4_reign_7 (by decide) ?_
  refine lv_icmp_eq (tgt := 15) hx hb dX4_reign_9 (by decide) (fun c1 => ?_) (fun c1 => ?_)
  · skip
    refine lv_aload_n hx hb dX4_reign_15 rfl (lv_at hl 0 rfl) ?_
    refine va_get (D := D) (ci := 4) (v := .ref hg) (C := RX4) (T := TX4) (N := 6) hx hb hts hi4 hown hK hP 0 rfl rfl 3 (by decide) hf26 (fun _ h9 => h9) rfl dX4_reign_16 ?_
    refine rcVi (b := hg) (As := []) (rest := []) hSF (kX2_parts l D cI cZ cC hg ag og hn) (cwV 0 hts gX4_reign_X2_parts rfl rfl rfl (by decide +kernel) ⟨Nat.le_of_ble_eq_true rfl, Nat.le_of_ble_eq_true rfl⟩) (va_recv hK hP (ci := 2) (q0 := 7) rfl rfl) (hP.sub [7, 8] rfl) hK hN rfl rfl hl.1 (Nat.le_of_ble_eq_true rfl) dX4_reign_19 ⟨Nat.zero_le _, Nat.zero_le _⟩ ?_
    refine lv_istore_n (lv' := [(2, .int (fX2_parts og)), (0, .ref hq), (1, .int p0)]) hx hb dX4_reign_22 rfl hl (by decide) rfl (fun ls hl => ?_)
    refine lv_iload_n hx hb dX4_reign_23 rfl (lv_at hl 2 rfl) ?_
    refine lv_iconst (v := (-1)) hx hb dX4_reign_24 (by decide) ?_
    refine lv_iload_n hx hb dX4_reign_25 rfl (lv_at hl 0 rfl) ?_
    refine rcSi (As := [.int p0, .int (-1), .int (fX2_parts og)]) (rest := []) hSF (kX4_within l D cI cZ cC p0 (-1) (fX2_parts og)) (va_cwS 3 hts gX4_reign_X4_within rfl rfl rfl (by decide +kernel) ⟨Nat.le_of_ble_eq_true rfl, Nat.le_of_ble_eq_true rfl⟩) (hP.sub [] rfl) hK hN rfl rfl hl.1 (Nat.le_of_ble_eq_true rfl) dX4_reign_26 ⟨Nat.zero_le _, Nat.zero_le _⟩ ?_
    refine lv_if_ne (tgt := 35) hx hb dX4_reign_29 (by decide) (fun c2 => ?_) (fun c2 => ?_)
    · skip
      refine lv_aload_n hx hb dX4_reign_35 rfl (lv_at hl 1 rfl) ?_
      refine va_get (D := D) (ci := 4) (v := .ref hy) (C := RX4) (T := TX4) (N := 6) hx hb hts hi4 hown hK hP 0 rfl rfl 4 (by decide) hf33 (fun _ h9 => h9) rfl dX4_reign_36 ?_
      refine lv_aload_n hx hb dX4_reign_39 rfl (lv_at hl 1 rfl) ?_
      refine va_get (D := D) (ci := 4) (v := .ref hc) (C := RX4) (T := TX4) (N := 6) hx hb hts hi4 hown hK hP 0 rfl rfl 0 (by decide) hf10 (fun _ h9 => h9) rfl dX4_reign_40 ?_
      refine lv_aload_n hx hb dX4_reign_43 rfl (lv_at hl 1 rfl) ?_
      refine va_get (D := D) (ci := 4) (v := .ref hg) (C := RX4) (T := TX4) (N := 6) hx hb hts hi4 hown hK hP 0 rfl rfl 3 (by decide) hf26 (fun _ h9 => h9) rfl dX4_reign_44 ?_
      refine lv_iload_n hx hb dX4_reign_47 rfl (lv_at hl 2 rfl) ?_
      refine lv_iconst (v := (-1)) hx hb dX4_reign_48 (by decide) ?_
      refine W_itei (P := p0 = (-1)) (a := (fX2_parts og)) (b := p0) (J := 57) (ls9 := ls) (rest9 := [.ref hg, .ref hc, .ref hy]) (fun ja4 jb4 => ?_) ?_
      · refine lv_icmp_ne (tgt := 56) hx hb dX4_reign_49 (by decide) (fun c3 => ?_) (fun c3 => ?_)
        · skip
          refine lv_iload_n hx hb dX4_reign_56 rfl (lv_at hl 2 rfl) ?_
          exact jb4 c3
        · skip
          refine lv_iload_n hx hb dX4_reign_52 rfl (lv_at hl 0 rfl) ?_
          refine lv_goto (tgt := 57) hx hb dX4_reign_53 (by decide) ?_
          exact ja4 c3
      refine wcVv (b := hy) (As := [.ref hc, .ref hg, .int (if p0 = (-1) then (fX2_parts og) else p0)]) (rest := []) (wr := [(hq, .inr (4, [.ref hc, .ref hu, .ref hi, .ref hg, .ref hy, .ref hw]))]) (ws' := wX4 hq hc hu hi hg hy hw ++ wX0 cI hc ac oc ++ wX2 cI hg ag og ++ wX1 cI hd hy ay (fX1_play oy od oc og (if p0 = (-1) then (fX2_parts og) else p0)).2 ++ wX0 cI hd ad (fX1_play oy od oc og (if p0 = (-1) then (fX2_parts og) else p0)).1) hSF (kX1_play l D cI cZ cC hy ay oy hd ad od hc ac oc hg ag og (if p0 = (-1) then (fX2_parts og) else p0) hn) (cwV 3 hts gX4_reign_X1_play rfl rfl rfl (by decide +kernel) ⟨Nat.le_of_ble_eq_true rfl, Nat.le_of_ble_eq_true rfl⟩) (va_recv hK hP (ci := 1) (q0 := 9) rfl rfl) hP hD hS hA hK hN [9, 10, 11, 12, 13, 14, 15, 16, 1, 2, 3, 4, 5, 6, 7, 8] [0] [0, 9, 10, 11, 12, 13, 14, 15, 16, 1, 2, 3, 4, 5, 6, 7, 8] rfl (by decide) rfl (by decide) (by decide) rfl (by decide) rfl rfl hl.1 (Nat.le_of_ble_eq_true rfl) dX4_reign_57 ⟨Nat.zero_le _, Nat.zero_le _⟩ (fun H locs hP hD hS => ?_)
      refine lv_aload_n hx hb dX4_reign_60 rfl (lv_at hl 1 rfl) ?_
      refine va_get (D := D) (ci := 4) (v := .ref hy) (C := RX4) (T := TX4) (N := 6) hx hb hts hi4 hown hK hP 0 rfl rfl 4 (by decide) hf33 (fun _ h9 => h9) rfl dX4_reign_61 ?_
      refine va_get (D := D) (ci := 1) (v := .int ((fX1_play oy od oc og (if p0 = (-1) then (fX2_parts og) else p0)).2.1 2)) (C := RX1) (T := TX1) (N := 4) hx hb hts hi1 hown hK hP 9 rfl rfl 2 (by decide) hf119 (fun _ h9 => h9) rfl dX4_reign_64 ?_
      refine W_itei (P := ((fX1_play oy od oc og (if p0 = (-1) then (fX2_parts og) else p0)).2.1 2) = 0) (a := (-6)) (b := ((fX1_play oy od oc og (if p0 = (-1) then (fX2_parts og) else p0)).2.1 2)) (J := 82) (ls9 := ls) (rest9 := []) (fun ja6 jb6 => ?_) ?_
      · refine lv_if_ne (tgt := 75) hx hb dX4_reign_67 (by decide) (fun c5 => ?_) (fun c5 => ?_)
        · skip
          refine lv_aload_n hx hb dX4_reign_75 rfl (lv_at hl 1 rfl) ?_
          refine va_get (D := D) (ci := 4) (v := .ref hy) (C := RX4) (T := TX4) (N := 6) hx hb hts hi4 hown hK hP 0 rfl rfl 4 (by decide) hf33 (fun _ h9 => h9) rfl dX4_reign_76 ?_
          refine va_get (D := D) (ci := 1) (v := .int ((fX1_play oy od oc og (if p0 = (-1) then (fX2_parts og) else p0)).2.1 2)) (C := RX1) (T := TX1) (N := 4) hx hb hts hi1 hown hK hP 9 rfl rfl 2 (by decide) hf119 (fun _ h9 => h9) rfl dX4_reign_79 ?_
          exact jb6 c5
        · skip
          refine lv_bipush (v := (-6)) hx hb dX4_reign_70 (by decide) ?_
          refine lv_goto (tgt := 82) hx hb dX4_reign_72 (by decide) ?_
          exact ja6 c5
      have e9 : fX4_reign oc og oy od p0 = ((if ((fX1_play oy od oc og (if p0 = (-1) then (fX2_parts og) else p0)).2.1 2) = 0 then ((-6) : Int32) else ((fX1_play oy od oc og (if p0 = (-1) then (fX2_parts og) else p0)).2.1 2)), (fX1_play oy od oc og (if p0 = (-1) then (fX2_parts og) else p0)).1, (fX1_play oy od oc og (if p0 = (-1) then (fX2_parts og) else p0)).2) := by
        simp only [fX4_reign, if_pos c1, if_neg c2]
      exact W.iret hx hb hr (fun t ht hW => ⟨⟨_, ((fX1_play oy od oc og (if p0 = (-1) then (fX2_parts og) else p0)).1, (fX1_play oy od oc og (if p0 = (-1) then (fX2_parts og) else p0)).2), rfl, ⟨by rw [e9], by rw [e9]⟩, ⟨by rw [ht]; exact hP, hD⟩⟩, hS.F ht⟩) hS.2.2 dX4_reign_82
    · skip
      refine lv_bipush (v := (-2)) hx hb dX4_reign_32 (by decide) ?_
      have e9 : fX4_reign oc og oy od p0 = (((-2) : Int32), od, oy) := by
        simp only [fX4_reign, if_pos c1, if_pos c2]
      exact W.iret hx hb hr (fun t ht hW => ⟨⟨_, (od, oy), rfl, ⟨by rw [e9], by rw [e9]⟩, ⟨by rw [ht]; exact hP, hD⟩⟩, hS.F ht⟩) hS.2.2 dX4_reign_34
  · skip
    refine lv_bipush (v := (-5)) hx hb dX4_reign_12 (by decide) ?_
    have e9 : fX4_reign oc og oy od p0 = (((-5) : Int32), od, oy) := by
      simp only [fX4_reign, if_neg c1]
    exact W.iret hx hb hr (fun t ht hW => ⟨⟨_, (od, oy), rfl, ⟨by rw [e9], by rw [e9]⟩, ⟨by rw [ht]; exact hP, hD⟩⟩, hS.F ht⟩) hS.2.2 dX4_reign_14

set_option maxHeartbeats 4000000 in
set_option maxRecDepth 100000 in
theorem kX4_years (l : Launch) (D : va_G) (cI cZ cC : ClassId) (hq hu hi hw : Nat) (hc : Nat) (ac : Nat → Nat) (oc : OV) (hg : Nat) (ag : Nat → Nat) (og : OV) (hy : Nat) (ay : Nat → Nat) (oy : OV) (hd : Nat) (ad : Nat → Nat) (od : OV) (p0 : Int32) (hn : (og.1 1).toNatClampNeg ≤ 40 ∧ og.1 1 = nI (og.1 1).toNatClampNeg) {sz : Nat} : Met l yX4_years wsX4_years ({ frames := 6, cells := 0, slots := 0, locals := 143 }) (pW D (tyv cI cZ cC) (wX4 hq hc hu hi hg hy hw ++ wX0 cI hc ac oc ++ wX2 cI hg ag og ++ wX1 cI hd hy ay oy ++ wX0 cI hd ad od) sz [.ref hq, .int p0]) (va_Qi (fun r (u : OV × OV) => r = (fX4_years oc og oy od p0).1 ∧ u = (fX4_years oc og oy od p0).2) (qW D (fun (u : OV × OV) => wX4 hq hc hu hi hg hy hw ++ wX0 cI hc ac oc ++ wX2 cI hg ag og ++ wX1 cI hd hy ay u.2 ++ wX0 cI hd ad u.1) (va_A (wX4 hq hc hu hi hg hy hw ++ wX0 cI hc ac oc ++ wX2 cI hg ag og ++ wX1 cI hd hy ay oy ++ wX0 cI hd ad od) sz)) (va_A (wX4 hq hc hu hi hg hy hw ++ wX0 cI hc ac oc ++ wX2 cI hg ag og ++ wX1 cI hd hy ay oy ++ wX0 cI hd ad od) sz)) 0 0 (va_A (wX4 hq hc hu hi hg hy hw ++ wX0 cI hc ac oc ++ wX2 cI hg ag og ++ wX1 cI hd hy ay oy ++ wX0 cI hd ad od) sz) := by
  refine Met.ofW (cc := cX4_years) (maxL := 2) (ret := (some .int)) (by decide) rfl ?_
  intro p e s m args below meth c s₁ B hml hv
  obtain ⟨rfl, hsz, hP, hK, hN, hD0⟩ := hv
  have hx := B.exec
  have hb := B.bytes
  have hr := B.returns
  have hts := atoms_spec (ws := wsX4_years) B.pre
  have hown : s.vm.findClass RX4 = some m.cls := findClass_of_methodNamed B.named
  have hlocks := B.notSynchronized
  subst hsz
  have hD := hD0.self (sz := s.heap.size)
  generalize hAe : va_A (wX4 hq hc hu hi hg hy hw ++ wX0 cI hc ac oc ++ wX2 cI hg ag og ++ wX1 cI hd hy ay oy ++ wX0 cI hd ad od) s.heap.size = A at hD ⊢
  have hA : ∀ q : Nat, s.heap.size ≤ q → A q := fun q h => by rw [← hAe]; exact Or.inr h
  have hS : va_S A s.heap s.heap [] := va_S.rf
  have hP : va_P D vwCl (wX4 hq hc hu hi hg hy hw ++ wX0 cI hc ac oc ++ wX2 cI hg ag og ++ wX1 cI hd hy ay oy ++ wX0 cI hd ad od) s.heap := hP
  have hl := lv_entry ([.ref hq, .int p0]) (n := 2) (Nat.le_of_ble_eq_true rfl)
  rw [lg_entry_eq]
  generalize (lg_sl ([.ref hq, .int p0]) ++ List.replicate (2 - (lg_sl ([.ref hq, .int p0])).length) Slot.unset).toArray = ls at hl ⊢
  have hl : lv_has ls 2 [(0, .ref hq), (1, .int p0)] := hl
  have hSF : CallFix p m c cX4_years 2 s _ wsX4_years RX4 := ⟨hx, hb, hml, hown, hts⟩
  have hi4 : ∀ w ∈ wsX40, w ∈ wsX4_years := by decide +kernel
  have hf26 : (Cond.fieldLink RX4 26 "UmbrellaVote" "pad" "LUmbrellaVote$Pad;").before _ s = true := hts _ (by decide +kernel)
  have hf33 : (Cond.fieldLink RX4 33 "UmbrellaVote" "history" "LUmbrellaVote$History;").before _ s = true := hts _ (by decide +kernel)
  have hf10 : (Cond.fieldLink RX4 10 "UmbrellaVote" "city" "LUmbrellaVote$City;").before _ s = true := hts _ (by decide +kernel)
  have hi1 : ∀ w ∈ wsX10, w ∈ wsX4_years := by decide +kernel
  have hf122 : (Cond.fieldLink RX4 122 "UmbrellaVote$History" "reigns" "I").before _ s = true := hts _ (by decide +kernel)
  refine lv_aload_n hx hb dX4_years_0 rfl (lv_at hl 0 rfl) ?_
  refine va_get (D := D) (ci := 4) (v := .ref hg) (C := RX4) (T := TX4) (N := 6) hx hb hts hi4 hown hK hP 0 rfl rfl 3 (by decide) hf26 (fun _ h9 => h9) rfl dX4_years_1 ?_
  refine rcVi (b := hg) (As := []) (rest := []) hSF (kX2_firstFault l D cI cZ cC hg ag og hn) (cwV 0 hts gX4_years_X2_firstFault rfl rfl rfl (by decide +kernel) ⟨Nat.le_of_ble_eq_true rfl, Nat.le_of_ble_eq_true rfl⟩) (va_recv hK hP (ci := 2) (q0 := 7) rfl rfl) (hP.sub [7, 8] rfl) hK hN rfl rfl hl.1 (Nat.le_of_ble_eq_true rfl) dX4_years_4 ⟨Nat.zero_le _, Nat.zero_le _⟩ ?_
  refine lv_bipush (v := (-6)) hx hb dX4_years_7 (by decide) ?_
  refine lv_icmp_eq (tgt := 15) hx hb dX4_years_9 (by decide) (fun c1 => ?_) (fun c1 => ?_)
  · skip
    refine lv_iload_n hx hb dX4_years_15 rfl (lv_at hl 1 rfl) ?_
    refine lv_iconst (v := 0) hx hb dX4_years_16 (by decide) ?_
    refine lv_bipush (v := 9) hx hb dX4_years_17 (by decide) ?_
    refine rcSi (As := [.int p0, .int 0, .int 9]) (rest := []) hSF (kX4_within l D cI cZ cC p0 0 9) (va_cwS 3 hts gX4_years_X4_within rfl rfl rfl (by decide +kernel) ⟨Nat.le_of_ble_eq_true rfl, Nat.le_of_ble_eq_true rfl⟩) (hP.sub [] rfl) hK hN rfl rfl hl.1 (Nat.le_of_ble_eq_true rfl) dX4_years_19 ⟨Nat.zero_le _, Nat.zero_le _⟩ ?_
    refine lv_if_ne (tgt := 28) hx hb dX4_years_22 (by decide) (fun c2 => ?_) (fun c2 => ?_)
    · skip
      refine lv_aload_n hx hb dX4_years_28 rfl (lv_at hl 0 rfl) ?_
      refine va_get (D := D) (ci := 4) (v := .ref hy) (C := RX4) (T := TX4) (N := 6) hx hb hts hi4 hown hK hP 0 rfl rfl 4 (by decide) hf33 (fun _ h9 => h9) rfl dX4_years_29 ?_
      refine lv_aload_n hx hb dX4_years_32 rfl (lv_at hl 0 rfl) ?_
      refine va_get (D := D) (ci := 4) (v := .ref hc) (C := RX4) (T := TX4) (N := 6) hx hb hts hi4 hown hK hP 0 rfl rfl 0 (by decide) hf10 (fun _ h9 => h9) rfl dX4_years_33 ?_
      refine lv_aload_n hx hb dX4_years_36 rfl (lv_at hl 0 rfl) ?_
      refine va_get (D := D) (ci := 4) (v := .ref hg) (C := RX4) (T := TX4) (N := 6) hx hb hts hi4 hown hK hP 0 rfl rfl 3 (by decide) hf26 (fun _ h9 => h9) rfl dX4_years_37 ?_
      refine lv_aload_n hx hb dX4_years_40 rfl (lv_at hl 0 rfl) ?_
      refine va_get (D := D) (ci := 4) (v := .ref hg) (C := RX4) (T := TX4) (N := 6) hx hb hts hi4 hown hK hP 0 rfl rfl 3 (by decide) hf26 (fun _ h9 => h9) rfl dX4_years_41 ?_
      refine rcVi (b := hg) (As := []) (rest := [.ref hg, .ref hc, .ref hy]) hSF (kX2_parts l D cI cZ cC hg ag og hn) (cwV 0 hts gX4_years_X2_parts rfl rfl rfl (by decide +kernel) ⟨Nat.le_of_ble_eq_true rfl, Nat.le_of_ble_eq_true rfl⟩) (va_recv hK hP (ci := 2) (q0 := 7) rfl rfl) (hP.sub [7, 8] rfl) hK hN rfl rfl hl.1 (Nat.le_of_ble_eq_true rfl) dX4_years_44 ⟨Nat.zero_le _, Nat.zero_le _⟩ ?_
      refine wcVv (b := hy) (As := [.ref hc, .ref hg, .int (fX2_parts og)]) (rest := []) (wr := [(hq, .inr (4, [.ref hc, .ref hu, .ref hi, .ref hg, .ref hy, .ref hw]))]) (ws' := wX4 hq hc hu hi hg hy hw ++ wX0 cI hc ac oc ++ wX2 cI hg ag og ++ wX1 cI hd hy ay (fX1_play oy od oc og (fX2_parts og)).2 ++ wX0 cI hd ad (fX1_play oy od oc og (fX2_parts og)).1) hSF (kX1_play l D cI cZ cC hy ay oy hd ad od hc ac oc hg ag og (fX2_parts og) hn) (cwV 3 hts gX4_years_X1_play rfl rfl rfl (by decide +kernel) ⟨Nat.le_of_ble_eq_true rfl, Nat.le_of_ble_eq_true rfl⟩) (va_recv hK hP (ci := 1) (q0 := 9) rfl rfl) hP hD hS hA hK hN [9, 10, 11, 12, 13, 14, 15, 16, 1, 2, 3, 4, 5, 6, 7, 8] [0] [0, 9, 10, 11, 12, 13, 14, 15, 16, 1, 2, 3, 4, 5, 6, 7, 8] rfl (by decide) rfl (by decide) (by decide) rfl (by decide) rfl rfl hl.1 (Nat.le_of_ble_eq_true rfl) dX4_years_47 ⟨Nat.zero_le _, Nat.zero_le _⟩ (fun H locs hP hD hS => ?_)
      refine lv_iload_n hx hb dX4_years_50 rfl (lv_at hl 1 rfl) ?_
      refine lv_bipush (v := 9) hx hb dX4_years_51 (by decide) ?_
      refine W_itei (P := p0 = 9) (a := ((fX1_play oy od oc og (fX2_parts og)).2.1 3)) (b := (fX1_yearsOf ((fX1_play oy od oc og (fX2_parts og)).2) p0)) (J := 74) (ls9 := ls) (rest9 := []) (fun ja4 jb4 => ?_) ?_
      · refine lv_icmp_ne (tgt := 66) hx hb dX4_years_53 (by decide) (fun c3 => ?_) (fun c3 => ?_)
        · skip
          refine lv_aload_n hx hb dX4_years_66 rfl (lv_at hl 0 rfl) ?_
          refine va_get (D := D) (ci := 4) (v := .ref hy) (C := RX4) (T := TX4) (N := 6) hx hb hts hi4 hown hK hP 0 rfl rfl 4 (by decide) hf33 (fun _ h9 => h9) rfl dX4_years_67 ?_
          refine lv_iload_n hx hb dX4_years_70 rfl (lv_at hl 1 rfl) ?_
          refine rcVi (b := hy) (As := [.int p0]) (rest := []) hSF (kX1_yearsOf l D cI cZ cC hy ay (fX1_play oy od oc og (fX2_parts og)).2 hd p0) (cwV 1 hts gX4_years_X1_yearsOf rfl rfl rfl (by decide +kernel) ⟨Nat.le_of_ble_eq_true rfl, Nat.le_of_ble_eq_true rfl⟩) (va_recv hK hP (ci := 1) (q0 := 9) rfl rfl) (hP.sub [9, 10] rfl) hK hN rfl rfl hl.1 (Nat.le_of_ble_eq_true rfl) dX4_years_71 ⟨Nat.zero_le _, Nat.zero_le _⟩ ?_
          exact jb4 c3
        · skip
          refine lv_aload_n hx hb dX4_years_56 rfl (lv_at hl 0 rfl) ?_
          refine va_get (D := D) (ci := 4) (v := .ref hy) (C := RX4) (T := TX4) (N := 6) hx hb hts hi4 hown hK hP 0 rfl rfl 4 (by decide) hf33 (fun _ h9 => h9) rfl dX4_years_57 ?_
          refine va_get (D := D) (ci := 1) (v := .int ((fX1_play oy od oc og (fX2_parts og)).2.1 3)) (C := RX1) (T := TX1) (N := 4) hx hb hts hi1 hown hK hP 9 rfl rfl 3 (by decide) hf122 (fun _ h9 => h9) rfl dX4_years_60 ?_
          refine lv_goto (tgt := 74) hx hb dX4_years_63 (by decide) ?_
          exact ja4 c3
      have e9 : fX4_years oc og oy od p0 = ((if p0 = 9 then ((fX1_play oy od oc og (fX2_parts og)).2.1 3) else (fX1_yearsOf ((fX1_play oy od oc og (fX2_parts og)).2) p0)), (fX1_play oy od oc og (fX2_parts og)).1, (fX1_play oy od oc og (fX2_parts og)).2) := by
        simp only [fX4_years, if_pos c1, if_neg c2]
      exact W.iret hx hb hr (fun t ht hW => ⟨⟨_, ((fX1_play oy od oc og (fX2_parts og)).1, (fX1_play oy od oc og (fX2_parts og)).2), rfl, ⟨by rw [e9], by rw [e9]⟩, ⟨by rw [ht]; exact hP, hD⟩⟩, hS.F ht⟩) hS.2.2 dX4_years_74
    · skip
      refine lv_bipush (v := (-2)) hx hb dX4_years_25 (by decide) ?_
      have e9 : fX4_years oc og oy od p0 = (((-2) : Int32), od, oy) := by
        simp only [fX4_years, if_pos c1, if_pos c2]
      exact W.iret hx hb hr (fun t ht hW => ⟨⟨_, (od, oy), rfl, ⟨by rw [e9], by rw [e9]⟩, ⟨by rw [ht]; exact hP, hD⟩⟩, hS.F ht⟩) hS.2.2 dX4_years_27
  · skip
    refine lv_bipush (v := (-5)) hx hb dX4_years_12 (by decide) ?_
    have e9 : fX4_years oc og oy od p0 = (((-5) : Int32), od, oy) := by
      simp only [fX4_years, if_neg c1]
    exact W.iret hx hb hr (fun t ht hW => ⟨⟨_, (od, oy), rfl, ⟨by rw [e9], by rw [e9]⟩, ⟨by rw [ht]; exact hP, hD⟩⟩, hS.F ht⟩) hS.2.2 dX4_years_14

set_option maxHeartbeats 4000000 in
set_option maxRecDepth 100000 in
theorem kX4_weight (l : Launch) (D : va_G) (cI cZ cC : ClassId) (hq hu hi hg hy hw : Nat) (hc : Nat) (ac : Nat → Nat) (oc : OV) (p0 : Int32) (p1 : Int32)  {sz : Nat} : Met l yX4_weight wsX4_weight ({ frames := 2, cells := 0, slots := 0, locals := 42 }) (pW D (tyv cI cZ cC) (wX4 hq hc hu hi hg hy hw ++ wX0 cI hc ac oc) sz [.ref hq, .int p0, .int p1]) (va_Qi (fun r (u : OV) => r = (fX4_weight oc p0 p1).1 ∧ u = (fX4_weight oc p0 p1).2) (qW D (fun (u : OV) => wX4 hq hc hu hi hg hy hw ++ wX0 cI hc ac u) (va_A (wX4 hq hc hu hi hg hy hw ++ wX0 cI hc ac oc) sz)) (va_A (wX4 hq hc hu hi hg hy hw ++ wX0 cI hc ac oc) sz)) 0 0 (va_A (wX4 hq hc hu hi hg hy hw ++ wX0 cI hc ac oc) sz) := by
  refine Met.ofW (cc := cX4_weight) (maxL := 4) (ret := (some .int)) (by decide) rfl ?_
  intro p e s m args below meth c s₁ B hml hv
  obtain ⟨rfl, hsz, hP, hK, hN, hD0⟩ := hv
  have hx := B.exec
  have hb := B.bytes
  have hr := B.returns
  have hts := atoms_spec (ws := wsX4_weight) B.pre
  have hown : s.vm.findClass RX4 = some m.cls := findClass_of_methodNamed B.named
  have hlocks := B.notSynchronized
  subst hsz
  have hD := hD0.self (sz := s.heap.size)
  generalize hAe : va_A (wX4 hq hc hu hi hg hy hw ++ wX0 cI hc ac oc) s.heap.size = A at hD ⊢
  have hA : ∀ q : Nat, s.heap.size ≤ q → A q := fun q h => by rw [← hAe]; exact Or.inr h
  have hS : va_S A s.heap s.heap [] := va_S.rf
  have hP : va_P D vwCl (wX4 hq hc hu hi hg hy hw ++ wX0 cI hc ac oc) s.heap := hP
  have hl := lv_entry ([.ref hq, .int p0, .int p1]) (n := 4) (Nat.le_of_ble_eq_true rfl)
  rw [lg_entry_eq]
  generalize (lg_sl ([.ref hq, .int p0, .int p1]) ++ List.replicate (4 - (lg_sl ([.ref hq, .int p0, .int p1])).length) Slot.unset).toArray = ls at hl ⊢
  have hl : lv_has ls 4 [(0, .ref hq), (1, .int p0), (2, .int p1)] := hl
  have hSF : CallFix p m c cX4_weight 4 s _ wsX4_weight RX4 := ⟨hx, hb, hml, hown, hts⟩
  have hi4 : ∀ w ∈ wsX40, w ∈ wsX4_weight := by decide +kernel
  have hf10 : (Cond.fieldLink RX4 10 "UmbrellaVote" "city" "LUmbrellaVote$City;").before _ s = true := hts _ (by decide +kernel)
  have hi0 : ∀ w ∈ wsX00, w ∈ wsX4_weight := by decide +kernel
  have hf128 : (Cond.fieldLink RX4 128 "UmbrellaVote$City" "weights" "[I").before _ s = true := hts _ (by decide +kernel)
  refine lv_iload_n hx hb dX4_weight_0 rfl (lv_at hl 1 rfl) ?_
  refine rcSi (As := [.int p0]) (rest := []) hSF (kX4_isPlace l D cI cZ cC p0) (va_cwS 1 hts gX4_weight_X4_isPlace rfl rfl rfl (by decide +kernel) ⟨Nat.le_of_ble_eq_true rfl, Nat.le_of_ble_eq_true rfl⟩) (hP.sub [] rfl) hK hN rfl rfl hl.1 (Nat.le_of_ble_eq_true rfl) dX4_weight_1 ⟨Nat.zero_le _, Nat.zero_le _⟩ ?_
  refine lv_if_ne (tgt := 9) hx hb dX4_weight_4 (by decide) (fun c1 => ?_) (fun c1 => ?_)
  · skip
    refine lv_aload_n hx hb dX4_weight_9 rfl (lv_at hl 0 rfl) ?_
    refine va_get (D := D) (ci := 4) (v := .ref hc) (C := RX4) (T := TX4) (N := 6) hx hb hts hi4 hown hK hP 0 rfl rfl 0 (by decide) hf10 (fun _ h9 => h9) rfl dX4_weight_10 ?_
    refine va_get (D := D) (ci := 0) (v := .ref (ac 9)) (C := RX0) (T := TX0) (N := 12) hx hb hts hi0 hown hK hP 1 rfl rfl 9 (by decide) hf128 (fun _ h9 => h9) rfl dX4_weight_13 ?_
    refine lv_iload_n hx hb dX4_weight_16 rfl (lv_at hl 1 rfl) ?_
    refine va_iald (f := (oc.2 9)) hx hb hK hP 4 0 rfl rfl (ip4 (by with_reducible assumption)) dX4_weight_17 ?_
    refine lv_istore_n (lv' := [(3, .int ((oc.2 9) p0.toNatClampNeg)), (0, .ref hq), (1, .int p0), (2, .int p1)]) hx hb dX4_weight_18 rfl hl (by decide) rfl (fun ls hl => ?_)
    refine lv_iload_n hx hb dX4_weight_19 rfl (lv_at hl 3 rfl) ?_
    refine lv_iconst (v := 0) hx hb dX4_weight_20 (by decide) ?_
    refine lv_bipush (v := 9) hx hb dX4_weight_21 (by decide) ?_
    refine rcSi (As := [.int p1, .int 0, .int 9]) (rest := []) hSF (kX4_within l D cI cZ cC p1 0 9) (va_cwS 3 hts gX4_weight_X4_within rfl rfl rfl (by decide +kernel) ⟨Nat.le_of_ble_eq_true rfl, Nat.le_of_ble_eq_true rfl⟩) (hP.sub [] rfl) hK hN rfl rfl hl.1 (Nat.le_of_ble_eq_true rfl) dX4_weight_23 ⟨Nat.zero_le _, Nat.zero_le _⟩ ?_
    refine lv_if_eq (tgt := 44) hx hb dX4_weight_26 (by decide) (fun c2 => ?_) (fun c2 => ?_)
    · skip
      refine lv_bipush (v := (-2)) hx hb dX4_weight_44 (by decide) ?_
      have e9 : fX4_weight oc p0 p1 = (((-2) : Int32), oc) := by
        simp only [fX4_weight, if_neg c1, if_pos c2]
      exact W.iret hx hb hr (fun t ht hW => ⟨⟨_, oc, rfl, ⟨by rw [e9], by rw [e9]⟩, ⟨by rw [ht]; exact hP, hD⟩⟩, hS.F ht⟩) hS.2.2 dX4_weight_46
    · skip
      refine lv_aload_n hx hb dX4_weight_29 rfl (lv_at hl 1 rfl) ?_
      refine va_get (D := D) (ci := 4) (v := .ref hc) (C := RX4) (T := TX4) (N := 6) hx hb hts hi4 hown hK hP 0 rfl rfl 0 (by decide) hf10 (fun _ h9 => h9) rfl dX4_weight_30 ?_
      refine rcVi (b := hc) (As := []) (rest := []) hSF (kX0_allWeights l D cI cZ cC hc ac oc) (cwV 0 hts gX4_weight_X0_allWeights rfl rfl rfl (by decide +kernel) ⟨Nat.le_of_ble_eq_true rfl, Nat.le_of_ble_eq_true rfl⟩) (va_recv hK hP (ci := 0) (q0 := 1) rfl rfl) (hP.sub [1, 2, 3, 4, 5, 6] rfl) hK hN rfl rfl hl.1 (Nat.le_of_ble_eq_true rfl) dX4_weight_33 ⟨Nat.zero_le _, Nat.zero_le _⟩ ?_
      refine lv_iload_n hx hb dX4_weight_36 rfl (lv_at hl 0 rfl) ?_
      refine lv_isub hx hb dX4_weight_37 ?_
      refine lv_iload_n hx hb dX4_weight_38 rfl (lv_at hl 3 rfl) ?_
      refine lv_iadd hx hb dX4_weight_39 ?_
      refine lv_iconst (v := 1) hx hb dX4_weight_40 (by decide) ?_
      refine lv_icmp_ge (tgt := 47) hx hb dX4_weight_41 (by decide) (fun c3 => ?_) (fun c3 => ?_)
      · skip
        refine lv_aload_n hx hb dX4_weight_47 rfl (lv_at hl 1 rfl) ?_
        refine va_get (D := D) (ci := 4) (v := .ref hc) (C := RX4) (T := TX4) (N := 6) hx hb hts hi4 hown hK hP 0 rfl rfl 0 (by decide) hf10 (fun _ h9 => h9) rfl dX4_weight_48 ?_
        refine va_get (D := D) (ci := 0) (v := .ref (ac 9)) (C := RX0) (T := TX0) (N := 12) hx hb hts hi0 hown hK hP 1 rfl rfl 9 (by decide) hf128 (fun _ h9 => h9) rfl dX4_weight_51 ?_
        refine lv_iload_n hx hb dX4_weight_54 rfl (lv_at hl 2 rfl) ?_
        refine lv_iload_n hx hb dX4_weight_55 rfl (lv_at hl 3 rfl) ?_
        refine va_iast hx hb hK hP hD hS 4 0 rfl rfl (ip4 (by with_reducible assumption)) dX4_weight_56 (fun H locs hP hD hS => ?_)
        have hP : va_P D vwCl (wX4 hq hc hu hi hg hy hw ++ wX0 cI hc ac (ua oc 9 p0.toNatClampNeg p1)) H := hP
        have hD : va_D A (wX4 hq hc hu hi hg hy hw ++ wX0 cI hc ac (ua oc 9 p0.toNatClampNeg p1)) := hD
        refine lv_iload_n hx hb dX4_weight_57 rfl (lv_at hl 0 rfl) ?_
        have e9 : fX4_weight oc p0 p1 = (((oc.2 9) p0.toNatClampNeg), (ua oc 9 p0.toNatClampNeg p1)) := by
          simp only [fX4_weight, if_neg c1, if_neg c2, if_pos c3]
        exact W.iret hx hb hr (fun t ht hW => ⟨⟨_, (ua oc 9 p0.toNatClampNeg p1), rfl, ⟨by rw [e9], by rw [e9]⟩, ⟨by rw [ht]; exact hP, hD⟩⟩, hS.F ht⟩) hS.2.2 dX4_weight_58
      · skip
        refine lv_bipush (v := (-2)) hx hb dX4_weight_44 (by decide) ?_
        have e9 : fX4_weight oc p0 p1 = (((-2) : Int32), oc) := by
          simp only [fX4_weight, if_neg c1, if_neg c2, if_neg c3]
        exact W.iret hx hb hr (fun t ht hW => ⟨⟨_, oc, rfl, ⟨by rw [e9], by rw [e9]⟩, ⟨by rw [ht]; exact hP, hD⟩⟩, hS.F ht⟩) hS.2.2 dX4_weight_46
  · skip
    refine lv_iconst (v := (-1)) hx hb dX4_weight_7 (by decide) ?_
    have e9 : fX4_weight oc p0 p1 = (((-1) : Int32), oc) := by
      simp only [fX4_weight, if_pos c1]
    exact W.iret hx hb hr (fun t ht hW => ⟨⟨_, oc, rfl, ⟨by rw [e9], by rw [e9]⟩, ⟨by rw [ht]; exact hP, hD⟩⟩, hS.F ht⟩) hS.2.2 dX4_weight_8

set_option maxHeartbeats 4000000 in
set_option maxRecDepth 100000 in
theorem kX4_chance (l : Launch) (D : va_G) (cI cZ cC : ClassId) (hq hu hi hg hy hw : Nat) (hc : Nat) (ac : Nat → Nat) (oc : OV) (p0 : Int32) (p1 : Int32)  : Met l yX4_chance wsX4_chance ({ frames := 4, cells := 0, slots := 0, locals := 96 }) (pR D (tyv cI cZ cC) (wX4 hq hc hu hi hg hy hw ++ wX0 cI hc ac oc) [.ref hq, .int p0, .int p1]) (vp_Sl (fun r => r = fX4_chance oc p0 p1)) 0 0 (fun _ => False) := by
  refine Met.ofW (cc := cX4_chance) (maxL := 4) (ret := (some .long)) (by decide) rfl ?_
  intro p e s m args below meth c s₁ B hml hv
  obtain ⟨rfl, hP, hK, hN⟩ := hv
  have hx := B.exec
  have hb := B.bytes
  have hr := B.returns
  have hts := atoms_spec (ws := wsX4_chance) B.pre
  have hown : s.vm.findClass RX4 = some m.cls := findClass_of_methodNamed B.named
  have hlocks := B.notSynchronized
  have hP : va_P D vwCl (wX4 hq hc hu hi hg hy hw ++ wX0 cI hc ac oc) s.heap := hP
  have hl := lv_entry ([.ref hq, .int p0, .int p1]) (n := 4) (Nat.le_of_ble_eq_true rfl)
  rw [lg_entry_eq]
  generalize (lg_sl ([.ref hq, .int p0, .int p1]) ++ List.replicate (4 - (lg_sl ([.ref hq, .int p0, .int p1])).length) Slot.unset).toArray = ls at hl ⊢
  have hl : lv_has ls 4 [(0, .ref hq), (1, .int p0), (2, .int p1)] := hl
  have hSF : CallFix p m c cX4_chance 4 s _ wsX4_chance RX4 := ⟨hx, hb, hml, hown, hts⟩
  have hi4 : ∀ w ∈ wsX40, w ∈ wsX4_chance := by decide +kernel
  have hf10 : (Cond.fieldLink RX4 10 "UmbrellaVote" "city" "LUmbrellaVote$City;").before _ s = true := hts _ (by decide +kernel)
  have hi0 : ∀ w ∈ wsX00, w ∈ wsX4_chance := by decide +kernel
  have hf64 : (Cond.fieldLink RX4 64 "UmbrellaVote$City" "cotton" "I").before _ s = true := hts _ (by decide +kernel)
  refine lv_iload_n hx hb dX4_chance_0 rfl (lv_at hl 1 rfl) ?_
  refine lv_bipush (v := 6) hx hb dX4_chance_1 (by decide) ?_
  refine lv_icmp_eq (tgt := 27) hx hb dX4_chance_3 (by decide) (fun c1 => ?_) (fun c1 => ?_)
  · skip
    refine lv_iload_n hx hb dX4_chance_27 rfl (lv_at hl 2 rfl) ?_
    refine lv_iconst (v := 0) hx hb dX4_chance_28 (by decide) ?_
    refine lv_iconst (v := 1) hx hb dX4_chance_29 (by decide) ?_
    refine rcSi (As := [.int p1, .int 0, .int 1]) (rest := []) hSF (kX4_within l D cI cZ cC p1 0 1) (va_cwS 3 hts gX4_chance_X4_within rfl rfl rfl (by decide +kernel) ⟨Nat.le_of_ble_eq_true rfl, Nat.le_of_ble_eq_true rfl⟩) (hP.sub [] rfl) hK hN rfl rfl hl.1 (Nat.le_of_ble_eq_true rfl) dX4_chance_30 ⟨Nat.zero_le _, Nat.zero_le _⟩ ?_
    refine lv_if_ne (tgt := 40) hx hb dX4_chance_33 (by decide) (fun c2 => ?_) (fun c2 => ?_)
    · skip
      refine lv_iload_n hx hb dX4_chance_40 rfl (lv_at hl 1 rfl) ?_
      refine lv_bipush (v := 6) hx hb dX4_chance_41 (by decide) ?_
      refine W_itei (P := p0 = 6) (a := ((oc.1 4) ^^^ (-1))) (b := (if p0 = 7 then (oc.1 4) else (1 <<< (p0 &&& 31)))) (J := 77) (ls9 := ls) (rest9 := []) (fun ja4 jb4 => ?_) ?_
      · refine lv_icmp_ne (tgt := 58) hx hb dX4_chance_43 (by decide) (fun c3 => ?_) (fun c3 => ?_)
        · skip
          refine lv_iload_n hx hb dX4_chance_58 rfl (lv_at hl 1 rfl) ?_
          refine lv_bipush (v := 7) hx hb dX4_chance_59 (by decide) ?_
          refine W_itei (P := p0 = 7) (a := (oc.1 4)) (b := (1 <<< (p0 &&& 31))) (J := 77) (ls9 := ls) (rest9 := []) (fun ja6 jb6 => ?_) ?_
          · refine lv_icmp_ne (tgt := 74) hx hb dX4_chance_61 (by decide) (fun c5 => ?_) (fun c5 => ?_)
            · skip
              refine lv_iconst (v := 1) hx hb dX4_chance_74 (by decide) ?_
              refine lv_iload_n hx hb dX4_chance_75 rfl (lv_at hl 1 rfl) ?_
              refine lv_ishl hx hb dX4_chance_76 ?_
              exact jb6 c5
            · skip
              refine lv_aload_n hx hb dX4_chance_64 rfl (lv_at hl 0 rfl) ?_
              refine va_get (D := D) (ci := 4) (v := .ref hc) (C := RX4) (T := TX4) (N := 6) hx hb hts hi4 hown hK hP 0 rfl rfl 0 (by decide) hf10 (fun _ h9 => h9) rfl dX4_chance_65 ?_
              refine va_get (D := D) (ci := 0) (v := .int (oc.1 4)) (C := RX0) (T := TX0) (N := 12) hx hb hts hi0 hown hK hP 1 rfl rfl 4 (by decide) hf64 (fun _ h9 => h9) rfl dX4_chance_68 ?_
              refine lv_goto (tgt := 77) hx hb dX4_chance_71 (by decide) ?_
              exact ja6 c5
          exact jb4 c3
        · skip
          refine lv_aload_n hx hb dX4_chance_46 rfl (lv_at hl 0 rfl) ?_
          refine va_get (D := D) (ci := 4) (v := .ref hc) (C := RX4) (T := TX4) (N := 6) hx hb hts hi4 hown hK hP 0 rfl rfl 0 (by decide) hf10 (fun _ h9 => h9) rfl dX4_chance_47 ?_
          refine va_get (D := D) (ci := 0) (v := .int (oc.1 4)) (C := RX0) (T := TX0) (N := 12) hx hb hts hi0 hown hK hP 1 rfl rfl 4 (by decide) hf64 (fun _ h9 => h9) rfl dX4_chance_50 ?_
          refine lv_iconst (v := (-1)) hx hb dX4_chance_53 (by decide) ?_
          refine lv_ixor hx hb dX4_chance_54 ?_
          refine lv_goto (tgt := 77) hx hb dX4_chance_55 (by decide) ?_
          exact ja4 c3
      refine lv_topi (fun x7 ex7 => ?_)
      refine lv_istore_n (lv' := [(3, .int x7), (0, .ref hq), (1, .int p0), (2, .int p1)]) hx hb dX4_chance_77 rfl hl (by decide) rfl (fun ls hl => ?_)
      refine lv_aload_n hx hb dX4_chance_78 rfl (lv_at hl 1 rfl) ?_
      refine va_get (D := D) (ci := 4) (v := .ref hc) (C := RX4) (T := TX4) (N := 6) hx hb hts hi4 hown hK hP 0 rfl rfl 0 (by decide) hf10 (fun _ h9 => h9) rfl dX4_chance_79 ?_
      refine lv_iload_n hx hb dX4_chance_82 rfl (lv_at hl 0 rfl) ?_
      refine rcVi (b := hc) (As := [.int x7]) (rest := []) hSF (kX0_shareOf l D cI cZ cC hc ac oc x7) (cwV 1 hts gX4_chance_X0_shareOf rfl rfl rfl (by decide +kernel) ⟨Nat.le_of_ble_eq_true rfl, Nat.le_of_ble_eq_true rfl⟩) (va_recv hK hP (ci := 0) (q0 := 1) rfl rfl) (hP.sub [1, 2, 3, 4, 5, 6] rfl) hK hN rfl rfl hl.1 (Nat.le_of_ble_eq_true rfl) dX4_chance_83 ⟨Nat.zero_le _, Nat.zero_le _⟩ ?_
      refine lv_aload_n hx hb dX4_chance_86 rfl (lv_at hl 1 rfl) ?_
      refine va_get (D := D) (ci := 4) (v := .ref hc) (C := RX4) (T := TX4) (N := 6) hx hb hts hi4 hown hK hP 0 rfl rfl 0 (by decide) hf10 (fun _ h9 => h9) rfl dX4_chance_87 ?_
      refine rcVi (b := hc) (As := []) (rest := [.int (fX0_shareOf oc x7)]) hSF (kX0_allShares l D cI cZ cC hc ac oc) (cwV 0 hts gX4_chance_X0_allShares rfl rfl rfl (by decide +kernel) ⟨Nat.le_of_ble_eq_true rfl, Nat.le_of_ble_eq_true rfl⟩) (va_recv hK hP (ci := 0) (q0 := 1) rfl rfl) (hP.sub [1, 2, 3, 4, 5, 6] rfl) hK hN rfl rfl hl.1 (Nat.le_of_ble_eq_true rfl) dX4_chance_90 ⟨Nat.zero_le _, Nat.zero_le _⟩ ?_
      refine lv_iload_n hx hb dX4_chance_93 rfl (lv_at hl 3 rfl) ?_
      refine rcSl (As := [.int (fX0_shareOf oc x7), .int (fX0_allShares oc), .int p1]) (rest := []) hSF (kX4_fraction l D cI cZ cC (fX0_shareOf oc x7) (fX0_allShares oc) p1) (va_cwS 3 hts gX4_chance_X4_fraction rfl rfl rfl (by decide +kernel) ⟨Nat.le_of_ble_eq_true rfl, Nat.le_of_ble_eq_true rfl⟩) (hP.sub [] rfl) hK hN rfl rfl hl.1 (Nat.le_of_ble_eq_true rfl) dX4_chance_94 ⟨Nat.zero_le _, Nat.zero_le _⟩ ?_
      have e9 : fX4_chance oc p0 p1 = (fX4_fraction (fX0_shareOf oc x7) (fX0_allShares oc) p1) := by
        simp only [fX4_chance, if_pos c1, if_neg c2]
        first | rw [← ex7] | (simp only [if_pos c1, if_neg c2] at ex7; rw [← ex7])
        simp only [fX4_chance_x7, if_pos c1, if_neg c2]
      exact W.lret hx hb hr (fun t ht hW => ⟨_, rfl, e9.symm, ht⟩) (fun _ h9 => absurd h9 List.not_mem_nil) dX4_chance_97
    · skip
      refine lv_ldc2 (v := (-1000000000000000002)) hx hb hown (hts (.constantLong RX4 137 (-1000000000000000002)) (by decide +kernel)) dX4_chance_36 ?_
      have e9 : fX4_chance oc p0 p1 = (-1000000000000000002) := by
        simp only [fX4_chance, if_pos c1, if_pos c2]
      exact W.lret hx hb hr (fun t ht hW => ⟨_, rfl, e9.symm, ht⟩) (fun _ h9 => absurd h9 List.not_mem_nil) dX4_chance_39
  · skip
    refine lv_iload_n hx hb dX4_chance_6 rfl (lv_at hl 1 rfl) ?_
    refine lv_bipush (v := 7) hx hb dX4_chance_7 (by decide) ?_
    refine lv_icmp_eq (tgt := 27) hx hb dX4_chance_9 (by decide) (fun c8 => ?_) (fun c8 => ?_)
    · skip
      refine lv_iload_n hx hb dX4_chance_27 rfl (lv_at hl 2 rfl) ?_
      refine lv_iconst (v := 0) hx hb dX4_chance_28 (by decide) ?_
      refine lv_iconst (v := 1) hx hb dX4_chance_29 (by decide) ?_
      refine rcSi (As := [.int p1, .int 0, .int 1]) (rest := []) hSF (kX4_within l D cI cZ cC p1 0 1) (va_cwS 3 hts gX4_chance_X4_within rfl rfl rfl (by decide +kernel) ⟨Nat.le_of_ble_eq_true rfl, Nat.le_of_ble_eq_true rfl⟩) (hP.sub [] rfl) hK hN rfl rfl hl.1 (Nat.le_of_ble_eq_true rfl) dX4_chance_30 ⟨Nat.zero_le _, Nat.zero_le _⟩ ?_
      refine lv_if_ne (tgt := 40) hx hb dX4_chance_33 (by decide) (fun c9 => ?_) (fun c9 => ?_)
      · skip
        refine lv_iload_n hx hb dX4_chance_40 rfl (lv_at hl 1 rfl) ?_
        refine lv_bipush (v := 6) hx hb dX4_chance_41 (by decide) ?_
        refine W_itei (P := p0 = 6) (a := ((oc.1 4) ^^^ (-1))) (b := (if p0 = 7 then (oc.1 4) else (1 <<< (p0 &&& 31)))) (J := 77) (ls9 := ls) (rest9 := []) (fun ja11 jb11 => ?_) ?_
        · refine lv_icmp_ne (tgt := 58) hx hb dX4_chance_43 (by decide) (fun c10 => ?_) (fun c10 => ?_)
          · skip
            refine lv_iload_n hx hb dX4_chance_58 rfl (lv_at hl 1 rfl) ?_
            refine lv_bipush (v := 7) hx hb dX4_chance_59 (by decide) ?_
            refine W_itei (P := p0 = 7) (a := (oc.1 4)) (b := (1 <<< (p0 &&& 31))) (J := 77) (ls9 := ls) (rest9 := []) (fun ja13 jb13 => ?_) ?_
            · refine lv_icmp_ne (tgt := 74) hx hb dX4_chance_61 (by decide) (fun c12 => ?_) (fun c12 => ?_)
              · skip
                refine lv_iconst (v := 1) hx hb dX4_chance_74 (by decide) ?_
                refine lv_iload_n hx hb dX4_chance_75 rfl (lv_at hl 1 rfl) ?_
                refine lv_ishl hx hb dX4_chance_76 ?_
                exact jb13 c12
              · skip
                refine lv_aload_n hx hb dX4_chance_64 rfl (lv_at hl 0 rfl) ?_
                refine va_get (D := D) (ci := 4) (v := .ref hc) (C := RX4) (T := TX4) (N := 6) hx hb hts hi4 hown hK hP 0 rfl rfl 0 (by decide) hf10 (fun _ h9 => h9) rfl dX4_chance_65 ?_
                refine va_get (D := D) (ci := 0) (v := .int (oc.1 4)) (C := RX0) (T := TX0) (N := 12) hx hb hts hi0 hown hK hP 1 rfl rfl 4 (by decide) hf64 (fun _ h9 => h9) rfl dX4_chance_68 ?_
                refine lv_goto (tgt := 77) hx hb dX4_chance_71 (by decide) ?_
                exact ja13 c12
            exact jb11 c10
          · skip
            refine lv_aload_n hx hb dX4_chance_46 rfl (lv_at hl 0 rfl) ?_
            refine va_get (D := D) (ci := 4) (v := .ref hc) (C := RX4) (T := TX4) (N := 6) hx hb hts hi4 hown hK hP 0 rfl rfl 0 (by decide) hf10 (fun _ h9 => h9) rfl dX4_chance_47 ?_
            refine va_get (D := D) (ci := 0) (v := .int (oc.1 4)) (C := RX0) (T := TX0) (N := 12) hx hb hts hi0 hown hK hP 1 rfl rfl 4 (by decide) hf64 (fun _ h9 => h9) rfl dX4_chance_50 ?_
            refine lv_iconst (v := (-1)) hx hb dX4_chance_53 (by decide) ?_
            refine lv_ixor hx hb dX4_chance_54 ?_
            refine lv_goto (tgt := 77) hx hb dX4_chance_55 (by decide) ?_
            exact ja11 c10
        refine lv_topi (fun x14 ex14 => ?_)
        refine lv_istore_n (lv' := [(3, .int x14), (0, .ref hq), (1, .int p0), (2, .int p1)]) hx hb dX4_chance_77 rfl hl (by decide) rfl (fun ls hl => ?_)
        refine lv_aload_n hx hb dX4_chance_78 rfl (lv_at hl 1 rfl) ?_
        refine va_get (D := D) (ci := 4) (v := .ref hc) (C := RX4) (T := TX4) (N := 6) hx hb hts hi4 hown hK hP 0 rfl rfl 0 (by decide) hf10 (fun _ h9 => h9) rfl dX4_chance_79 ?_
        refine lv_iload_n hx hb dX4_chance_82 rfl (lv_at hl 0 rfl) ?_
        refine rcVi (b := hc) (As := [.int x14]) (rest := []) hSF (kX0_shareOf l D cI cZ cC hc ac oc x14) (cwV 1 hts gX4_chance_X0_shareOf rfl rfl rfl (by decide +kernel) ⟨Nat.le_of_ble_eq_true rfl, Nat.le_of_ble_eq_true rfl⟩) (va_recv hK hP (ci := 0) (q0 := 1) rfl rfl) (hP.sub [1, 2, 3, 4, 5, 6] rfl) hK hN rfl rfl hl.1 (Nat.le_of_ble_eq_true rfl) dX4_chance_83 ⟨Nat.zero_le _, Nat.zero_le _⟩ ?_
        refine lv_aload_n hx hb dX4_chance_86 rfl (lv_at hl 1 rfl) ?_
        refine va_get (D := D) (ci := 4) (v := .ref hc) (C := RX4) (T := TX4) (N := 6) hx hb hts hi4 hown hK hP 0 rfl rfl 0 (by decide) hf10 (fun _ h9 => h9) rfl dX4_chance_87 ?_
        refine rcVi (b := hc) (As := []) (rest := [.int (fX0_shareOf oc x14)]) hSF (kX0_allShares l D cI cZ cC hc ac oc) (cwV 0 hts gX4_chance_X0_allShares rfl rfl rfl (by decide +kernel) ⟨Nat.le_of_ble_eq_true rfl, Nat.le_of_ble_eq_true rfl⟩) (va_recv hK hP (ci := 0) (q0 := 1) rfl rfl) (hP.sub [1, 2, 3, 4, 5, 6] rfl) hK hN rfl rfl hl.1 (Nat.le_of_ble_eq_true rfl) dX4_chance_90 ⟨Nat.zero_le _, Nat.zero_le _⟩ ?_
        refine lv_iload_n hx hb dX4_chance_93 rfl (lv_at hl 3 rfl) ?_
        refine rcSl (As := [.int (fX0_shareOf oc x14), .int (fX0_allShares oc), .int p1]) (rest := []) hSF (kX4_fraction l D cI cZ cC (fX0_shareOf oc x14) (fX0_allShares oc) p1) (va_cwS 3 hts gX4_chance_X4_fraction rfl rfl rfl (by decide +kernel) ⟨Nat.le_of_ble_eq_true rfl, Nat.le_of_ble_eq_true rfl⟩) (hP.sub [] rfl) hK hN rfl rfl hl.1 (Nat.le_of_ble_eq_true rfl) dX4_chance_94 ⟨Nat.zero_le _, Nat.zero_le _⟩ ?_
        have e9 : fX4_chance oc p0 p1 = (fX4_fraction (fX0_shareOf oc x14) (fX0_allShares oc) p1) := by
          simp only [fX4_chance, if_neg c1, if_pos c8, if_neg c9]
          first | rw [← ex14] | (simp only [if_neg c1, if_pos c8, if_neg c9] at ex14; rw [← ex14])
          simp only [fX4_chance_x14, if_neg c1, if_pos c8, if_neg c9]
        exact W.lret hx hb hr (fun t ht hW => ⟨_, rfl, e9.symm, ht⟩) (fun _ h9 => absurd h9 List.not_mem_nil) dX4_chance_97
      · skip
        refine lv_ldc2 (v := (-1000000000000000002)) hx hb hown (hts (.constantLong RX4 137 (-1000000000000000002)) (by decide +kernel)) dX4_chance_36 ?_
        have e9 : fX4_chance oc p0 p1 = (-1000000000000000002) := by
          simp only [fX4_chance, if_neg c1, if_pos c8, if_pos c9]
        exact W.lret hx hb hr (fun t ht hW => ⟨_, rfl, e9.symm, ht⟩) (fun _ h9 => absurd h9 List.not_mem_nil) dX4_chance_39
    · skip
      refine lv_aload_n hx hb dX4_chance_12 rfl (lv_at hl 0 rfl) ?_
      refine va_get (D := D) (ci := 4) (v := .ref hc) (C := RX4) (T := TX4) (N := 6) hx hb hts hi4 hown hK hP 0 rfl rfl 0 (by decide) hf10 (fun _ h9 => h9) rfl dX4_chance_13 ?_
      refine lv_iload_n hx hb dX4_chance_16 rfl (lv_at hl 1 rfl) ?_
      refine rcVi (b := hc) (As := [.int p0]) (rest := []) hSF (kX0_isThere l D cI cZ cC hc ac oc p0) (cwV 1 hts gX4_chance_X0_isThere rfl rfl rfl (by decide +kernel) ⟨Nat.le_of_ble_eq_true rfl, Nat.le_of_ble_eq_true rfl⟩) (va_recv hK hP (ci := 0) (q0 := 1) rfl rfl) (hP.sub [1, 2, 3, 4, 5, 6] rfl) hK hN rfl rfl hl.1 (Nat.le_of_ble_eq_true rfl) dX4_chance_17 ⟨Nat.zero_le _, Nat.zero_le _⟩ ?_
      refine lv_if_ne (tgt := 27) hx hb dX4_chance_20 (by decide) (fun c15 => ?_) (fun c15 => ?_)
      · skip
        refine lv_iload_n hx hb dX4_chance_27 rfl (lv_at hl 2 rfl) ?_
        refine lv_iconst (v := 0) hx hb dX4_chance_28 (by decide) ?_
        refine lv_iconst (v := 1) hx hb dX4_chance_29 (by decide) ?_
        refine rcSi (As := [.int p1, .int 0, .int 1]) (rest := []) hSF (kX4_within l D cI cZ cC p1 0 1) (va_cwS 3 hts gX4_chance_X4_within rfl rfl rfl (by decide +kernel) ⟨Nat.le_of_ble_eq_true rfl, Nat.le_of_ble_eq_true rfl⟩) (hP.sub [] rfl) hK hN rfl rfl hl.1 (Nat.le_of_ble_eq_true rfl) dX4_chance_30 ⟨Nat.zero_le _, Nat.zero_le _⟩ ?_
        refine lv_if_ne (tgt := 40) hx hb dX4_chance_33 (by decide) (fun c16 => ?_) (fun c16 => ?_)
        · skip
          refine lv_iload_n hx hb dX4_chance_40 rfl (lv_at hl 1 rfl) ?_
          refine lv_bipush (v := 6) hx hb dX4_chance_41 (by decide) ?_
          refine W_itei (P := p0 = 6) (a := ((oc.1 4) ^^^ (-1))) (b := (if p0 = 7 then (oc.1 4) else (1 <<< (p0 &&& 31)))) (J := 77) (ls9 := ls) (rest9 := []) (fun ja18 jb18 => ?_) ?_
          · refine lv_icmp_ne (tgt := 58) hx hb dX4_chance_43 (by decide) (fun c17 => ?_) (fun c17 => ?_)
            · skip
              refine lv_iload_n hx hb dX4_chance_58 rfl (lv_at hl 1 rfl) ?_
              refine lv_bipush (v := 7) hx hb dX4_chance_59 (by decide) ?_
              refine W_itei (P := p0 = 7) (a := (oc.1 4)) (b := (1 <<< (p0 &&& 31))) (J := 77) (ls9 := ls) (rest9 := []) (fun ja20 jb20 => ?_) ?_
              · refine lv_icmp_ne (tgt := 74) hx hb dX4_chance_61 (by decide) (fun c19 => ?_) (fun c19 => ?_)
                · skip
                  refine lv_iconst (v := 1) hx hb dX4_chance_74 (by decide) ?_
                  refine lv_iload_n hx hb dX4_chance_75 rfl (lv_at hl 1 rfl) ?_
                  refine lv_ishl hx hb dX4_chance_76 ?_
                  exact jb20 c19
                · skip
                  refine lv_aload_n hx hb dX4_chance_64 rfl (lv_at hl 0 rfl) ?_
                  refine va_get (D := D) (ci := 4) (v := .ref hc) (C := RX4) (T := TX4) (N := 6) hx hb hts hi4 hown hK hP 0 rfl rfl 0 (by decide) hf10 (fun _ h9 => h9) rfl dX4_chance_65 ?_
                  refine va_get (D := D) (ci := 0) (v := .int (oc.1 4)) (C := RX0) (T := TX0) (N := 12) hx hb hts hi0 hown hK hP 1 rfl rfl 4 (by decide) hf64 (fun _ h9 => h9) rfl dX4_chance_68 ?_
                  refine lv_goto (tgt := 77) hx hb dX4_chance_71 (by decide) ?_
                  exact ja20 c19
              exact jb18 c17
            · skip
              refine lv_aload_n hx hb dX4_chance_46 rfl (lv_at hl 0 rfl) ?_
              refine va_get (D := D) (ci := 4) (v := .ref hc) (C := RX4) (T := TX4) (N := 6) hx hb hts hi4 hown hK hP 0 rfl rfl 0 (by decide) hf10 (fun _ h9 => h9) rfl dX4_chance_47 ?_
              refine va_get (D := D) (ci := 0) (v := .int (oc.1 4)) (C := RX0) (T := TX0) (N := 12) hx hb hts hi0 hown hK hP 1 rfl rfl 4 (by decide) hf64 (fun _ h9 => h9) rfl dX4_chance_50 ?_
              refine lv_iconst (v := (-1)) hx hb dX4_chance_53 (by decide) ?_
              refine lv_ixor hx hb dX4_chance_54 ?_
              refine lv_goto (tgt := 77) hx hb dX4_chance_55 (by decide) ?_
              exact ja18 c17
          refine lv_topi (fun x21 ex21 => ?_)
          refine lv_istore_n (lv' := [(3, .int x21), (0, .ref hq), (1, .int p0), (2, .int p1)]) hx hb dX4_chance_77 rfl hl (by decide) rfl (fun ls hl => ?_)
          refine lv_aload_n hx hb dX4_chance_78 rfl (lv_at hl 1 rfl) ?_
          refine va_get (D := D) (ci := 4) (v := .ref hc) (C := RX4) (T := TX4) (N := 6) hx hb hts hi4 hown hK hP 0 rfl rfl 0 (by decide) hf10 (fun _ h9 => h9) rfl dX4_chance_79 ?_
          refine lv_iload_n hx hb dX4_chance_82 rfl (lv_at hl 0 rfl) ?_
          refine rcVi (b := hc) (As := [.int x21]) (rest := []) hSF (kX0_shareOf l D cI cZ cC hc ac oc x21) (cwV 1 hts gX4_chance_X0_shareOf rfl rfl rfl (by decide +kernel) ⟨Nat.le_of_ble_eq_true rfl, Nat.le_of_ble_eq_true rfl⟩) (va_recv hK hP (ci := 0) (q0 := 1) rfl rfl) (hP.sub [1, 2, 3, 4, 5, 6] rfl) hK hN rfl rfl hl.1 (Nat.le_of_ble_eq_true rfl) dX4_chance_83 ⟨Nat.zero_le _, Nat.zero_le _⟩ ?_
          refine lv_aload_n hx hb dX4_chance_86 rfl (lv_at hl 1 rfl) ?_
          refine va_get (D := D) (ci := 4) (v := .ref hc) (C := RX4) (T := TX4) (N := 6) hx hb hts hi4 hown hK hP 0 rfl rfl 0 (by decide) hf10 (fun _ h9 => h9) rfl dX4_chance_87 ?_
          refine rcVi (b := hc) (As := []) (rest := [.int (fX0_shareOf oc x21)]) hSF (kX0_allShares l D cI cZ cC hc ac oc) (cwV 0 hts gX4_chance_X0_allShares rfl rfl rfl (by decide +kernel) ⟨Nat.le_of_ble_eq_true rfl, Nat.le_of_ble_eq_true rfl⟩) (va_recv hK hP (ci := 0) (q0 := 1) rfl rfl) (hP.sub [1, 2, 3, 4, 5, 6] rfl) hK hN rfl rfl hl.1 (Nat.le_of_ble_eq_true rfl) dX4_chance_90 ⟨Nat.zero_le _, Nat.zero_le _⟩ ?_
          refine lv_iload_n hx hb dX4_chance_93 rfl (lv_at hl 3 rfl) ?_
          refine rcSl (As := [.int (fX0_shareOf oc x21), .int (fX0_allShares oc), .int p1]) (rest := []) hSF (kX4_fraction l D cI cZ cC (fX0_shareOf oc x21) (fX0_allShares oc) p1) (va_cwS 3 hts gX4_chance_X4_fraction rfl rfl rfl (by decide +kernel) ⟨Nat.le_of_ble_eq_true rfl, Nat.le_of_ble_eq_true rfl⟩) (hP.sub [] rfl) hK hN rfl rfl hl.1 (Nat.le_of_ble_eq_true rfl) dX4_chance_94 ⟨Nat.zero_le _, Nat.zero_le _⟩ ?_
          have e9 : fX4_chance oc p0 p1 = (fX4_fraction (fX0_shareOf oc x21) (fX0_allShares oc) p1) := by
            simp only [fX4_chance, if_neg c1, if_neg c8, if_neg c15, if_neg c16]
            first | rw [← ex21] | (simp only [if_neg c1, if_neg c8, if_neg c15, if_neg c16] at ex21; rw [← ex21])
            simp only [fX4_chance_x21, if_neg c1, if_neg c8, if_neg c15, if_neg c16]
          exact W.lret hx hb hr (fun t ht hW => ⟨_, rfl, e9.symm, ht⟩) (fun _ h9 => absurd h9 List.not_mem_nil) dX4_chance_97
        · skip
          refine lv_ldc2 (v := (-1000000000000000002)) hx hb hown (hts (.constantLong RX4 137 (-1000000000000000002)) (by decide +kernel)) dX4_chance_36 ?_
          have e9 : fX4_chance oc p0 p1 = (-1000000000000000002) := by
            simp only [fX4_chance, if_neg c1, if_neg c8, if_neg c15, if_pos c16]
          exact W.lret hx hb hr (fun t ht hW => ⟨_, rfl, e9.symm, ht⟩) (fun _ h9 => absurd h9 List.not_mem_nil) dX4_chance_39
      · skip
        refine lv_ldc2 (v := (-1000000000000000001)) hx hb hown (hts (.constantLong RX4 135 (-1000000000000000001)) (by decide +kernel)) dX4_chance_23 ?_
        have e9 : fX4_chance oc p0 p1 = (-1000000000000000001) := by
          simp only [fX4_chance, if_neg c1, if_neg c8, if_pos c15]
        exact W.lret hx hb hr (fun t ht hW => ⟨_, rfl, e9.symm, ht⟩) (fun _ h9 => absurd h9 List.not_mem_nil) dX4_chance_26

set_option maxHeartbeats 4000000 in
set_option maxRecDepth 100000 in
theorem kX4_trialShare (l : Launch) (D : va_G) (cI cZ cC : ClassId) (hq hi hg hy hw : Nat) (hc : Nat) (ac : Nat → Nat) (oc : OV) (hu : Nat) (au : Nat → Nat) (ou : OV) (p0 : Int32) (p1 : Int32) (p2 : Int32)  {sz : Nat} : Met l yX4_trialShare wsX4_trialShare ({ frames := 4, cells := 0, slots := 0, locals := 96 }) (pW D (tyv cI cZ cC) (wX4 hq hc hu hi hg hy hw ++ wX0 cI hc ac oc ++ wX0 cI hu au ou) sz [.ref hq, .int p0, .int p1, .int p2]) (va_Qi (fun r (u : OV) => r = (fX4_trialShare oc ou p0 p1 p2).1 ∧ u = (fX4_trialShare oc ou p0 p1 p2).2) (qW D (fun (u : OV) => wX4 hq hc hu hi hg hy hw ++ wX0 cI hc ac oc ++ wX0 cI hu au u) (va_A (wX4 hq hc hu hi hg hy hw ++ wX0 cI hc ac oc ++ wX0 cI hu au ou) sz)) (va_A (wX4 hq hc hu hi hg hy hw ++ wX0 cI hc ac oc ++ wX0 cI hu au ou) sz)) 0 0 (va_A (wX4 hq hc hu hi hg hy hw ++ wX0 cI hc ac oc ++ wX0 cI hu au ou) sz) := by
  refine Met.ofW (cc := cX4_trialShare) (maxL := 4) (ret := (some .int)) (by decide) rfl ?_
  intro p e s m args below meth c s₁ B hml hv
  obtain ⟨rfl, hsz, hP, hK, hN, hD0⟩ := hv
  have hx := B.exec
  have hb := B.bytes
  have hr := B.returns
  have hts := atoms_spec (ws := wsX4_trialShare) B.pre
  have hown : s.vm.findClass RX4 = some m.cls := findClass_of_methodNamed B.named
  have hlocks := B.notSynchronized
  subst hsz
  have hD := hD0.self (sz := s.heap.size)
  generalize hAe : va_A (wX4 hq hc hu hi hg hy hw ++ wX0 cI hc ac oc ++ wX0 cI hu au ou) s.heap.size = A at hD ⊢
  have hA : ∀ q : Nat, s.heap.size ≤ q → A q := fun q h => by rw [← hAe]; exact Or.inr h
  have hS : va_S A s.heap s.heap [] := va_S.rf
  have hP : va_P D vwCl (wX4 hq hc hu hi hg hy hw ++ wX0 cI hc ac oc ++ wX0 cI hu au ou) s.heap := hP
  have hl := lv_entry ([.ref hq, .int p0, .int p1, .int p2]) (n := 4) (Nat.le_of_ble_eq_true rfl)
  rw [lg_entry_eq]
  generalize (lg_sl ([.ref hq, .int p0, .int p1, .int p2]) ++ List.replicate (4 - (lg_sl ([.ref hq, .int p0, .int p1, .int p2])).length) Slot.unset).toArray = ls at hl ⊢
  have hl : lv_has ls 4 [(0, .ref hq), (1, .int p0), (2, .int p1), (3, .int p2)] := hl
  have hSF : CallFix p m c cX4_trialShare 4 s _ wsX4_trialShare RX4 := ⟨hx, hb, hml, hown, hts⟩
  have hi4 : ∀ w ∈ wsX40, w ∈ wsX4_trialShare := by decide +kernel
  have hf16 : (Cond.fieldLink RX4 16 "UmbrellaVote" "trial" "LUmbrellaVote$City;").before _ s = true := hts _ (by decide +kernel)
  have hf10 : (Cond.fieldLink RX4 10 "UmbrellaVote" "city" "LUmbrellaVote$City;").before _ s = true := hts _ (by decide +kernel)
  refine lv_aload_n hx hb dX4_trialShare_0 rfl (lv_at hl 0 rfl) ?_
  refine va_get (D := D) (ci := 4) (v := .ref hu) (C := RX4) (T := TX4) (N := 6) hx hb hts hi4 hown hK hP 0 rfl rfl 1 (by decide) hf16 (fun _ h9 => h9) rfl dX4_trialShare_1 ?_
  refine lv_aload_n hx hb dX4_trialShare_4 rfl (lv_at hl 0 rfl) ?_
  refine va_get (D := D) (ci := 4) (v := .ref hc) (C := RX4) (T := TX4) (N := 6) hx hb hts hi4 hown hK hP 0 rfl rfl 0 (by decide) hf10 (fun _ h9 => h9) rfl dX4_trialShare_5 ?_
  refine wcVv (b := hu) (As := [.ref hc]) (rest := []) (wr := [(hq, .inr (4, [.ref hc, .ref hu, .ref hi, .ref hg, .ref hy, .ref hw]))]) (ws' := wX4 hq hc hu hi hg hy hw ++ wX0 cI hc ac oc ++ wX0 cI hu au (fX0_copyFrom ou oc)) hSF (kX0_copyFrom l D cI cZ cC hu au ou hc ac oc) (cwV 1 hts gX4_trialShare_X0_copyFrom rfl rfl rfl (by decide +kernel) ⟨Nat.le_of_ble_eq_true rfl, Nat.le_of_ble_eq_true rfl⟩) (va_recv hK hP (ci := 0) (q0 := 7) rfl rfl) hP hD hS hA hK hN [7, 8, 9, 10, 11, 12, 1, 2, 3, 4, 5, 6] [0] [0, 7, 8, 9, 10, 11, 12, 1, 2, 3, 4, 5, 6] rfl (by decide) rfl (by decide) (by decide) rfl (by decide) rfl rfl hl.1 (Nat.le_of_ble_eq_true rfl) dX4_trialShare_8 ⟨Nat.zero_le _, Nat.zero_le _⟩ (fun H locs hP hD hS => ?_)
  refine lv_aload_n hx hb dX4_trialShare_11 rfl (lv_at hl 0 rfl) ?_
  refine va_get (D := D) (ci := 4) (v := .ref hu) (C := RX4) (T := TX4) (N := 6) hx hb hts hi4 hown hK hP 0 rfl rfl 1 (by decide) hf16 (fun _ h9 => h9) rfl dX4_trialShare_12 ?_
  refine lv_iload_n hx hb dX4_trialShare_15 rfl (lv_at hl 1 rfl) ?_
  refine lv_iload_n hx hb dX4_trialShare_16 rfl (lv_at hl 2 rfl) ?_
  refine lv_iload_n hx hb dX4_trialShare_17 rfl (lv_at hl 3 rfl) ?_
  refine wcVv (b := hu) (As := [.int p0, .int p1, .int p2]) (rest := []) (wr := [(hq, .inr (4, [.ref hc, .ref hu, .ref hi, .ref hg, .ref hy, .ref hw])), (hc, .inr (0, [.int (oc.1 0), .int (oc.1 1), .int (oc.1 2), .int (oc.1 3), .int (oc.1 4), .int (oc.1 5), .int (oc.1 6), .ref (ac 7), .ref (ac 8), .ref (ac 9), .ref (ac 10), .ref (ac 11)])), (ac 7, .inl (cI, 6, .inl (oc.2 7))), (ac 8, .inl (cI, 6, .inl (oc.2 8))), (ac 9, .inl (cI, 10, .inl (oc.2 9))), (ac 10, .inl (cI, 6, .inl (oc.2 10))), (ac 11, .inl (cI, 6, .inl (oc.2 11)))]) (ws' := wX4 hq hc hu hi hg hy hw ++ wX0 cI hc ac oc ++ wX0 cI hu au (fX0_put (fX0_copyFrom ou oc) p0 p1 p2)) hSF (kX0_put l D cI cZ cC hu au (fX0_copyFrom ou oc) p0 p1 p2) (cwV 3 hts gX4_trialShare_X0_put rfl rfl rfl (by decide +kernel) ⟨Nat.le_of_ble_eq_true rfl, Nat.le_of_ble_eq_true rfl⟩) (va_recv hK hP (ci := 0) (q0 := 7) rfl rfl) hP hD hS hA hK hN [7, 8, 9, 10, 11, 12] [0, 1, 2, 3, 4, 5, 6] [0, 1, 2, 3, 4, 5, 6, 7, 8, 9, 10, 11, 12] rfl (by decide) rfl (by decide) (by decide) rfl (by decide) rfl rfl hl.1 (Nat.le_of_ble_eq_true rfl) dX4_trialShare_18 ⟨Nat.zero_le _, Nat.zero_le _⟩ (fun H locs hP hD hS => ?_)
  refine lv_aload_n hx hb dX4_trialShare_21 rfl (lv_at hl 0 rfl) ?_
  refine va_get (D := D) (ci := 4) (v := .ref hu) (C := RX4) (T := TX4) (N := 6) hx hb hts hi4 hown hK hP 0 rfl rfl 1 (by decide) hf16 (fun _ h9 => h9) rfl dX4_trialShare_22 ?_
  refine lv_iconst (v := 1) hx hb dX4_trialShare_25 (by decide) ?_
  refine lv_iload_n hx hb dX4_trialShare_26 rfl (lv_at hl 1 rfl) ?_
  refine lv_ishl hx hb dX4_trialShare_27 ?_
  refine rcVi (b := hu) (As := [.int (1 <<< (p0 &&& 31))]) (rest := []) hSF (kX0_shareOf l D cI cZ cC hu au (fX0_put (fX0_copyFrom ou oc) p0 p1 p2) (1 <<< (p0 &&& 31))) (cwV 1 hts gX4_trialShare_X0_shareOf rfl rfl rfl (by decide +kernel) ⟨Nat.le_of_ble_eq_true rfl, Nat.le_of_ble_eq_true rfl⟩) (va_recv hK hP (ci := 0) (q0 := 7) rfl rfl) (hP.sub [7, 8, 9, 10, 11, 12] rfl) hK hN rfl rfl hl.1 (Nat.le_of_ble_eq_true rfl) dX4_trialShare_28 ⟨Nat.zero_le _, Nat.zero_le _⟩ ?_
  have e9 : fX4_trialShare oc ou p0 p1 p2 = ((fX0_shareOf (fX0_put (fX0_copyFrom ou oc) p0 p1 p2) (1 <<< (p0 &&& 31))), (fX0_put (fX0_copyFrom ou oc) p0 p1 p2)) := by
    rfl
  exact W.iret hx hb hr (fun t ht hW => ⟨⟨_, (fX0_put (fX0_copyFrom ou oc) p0 p1 p2), rfl, ⟨by rw [e9], by rw [e9]⟩, ⟨by rw [ht]; exact hP, hD⟩⟩, hS.F ht⟩) hS.2.2 dX4_trialShare_31

set_option maxHeartbeats 4000000 in
set_option maxRecDepth 100000 in
theorem kX4_bestPlace (l : Launch) (D : va_G) (cI cZ cC : ClassId) (hq hi hg hy hw : Nat) (hc : Nat) (ac : Nat → Nat) (oc : OV) (hu : Nat) (au : Nat → Nat) (ou : OV) (p0 : Int32) (hp : vp_in p0 6) {sz : Nat} : Met l yX4_bestPlace wsX4_bestPlace ({ frames := 5, cells := 0, slots := 0, locals := 119 }) (pW D (tyv cI cZ cC) (wX4 hq hc hu hi hg hy hw ++ wX0 cI hc ac oc ++ wX0 cI hu au ou) sz [.ref hq, .int p0]) (va_Qi (fun r (u : OV) => r = (fX4_bestPlace oc ou p0).1 ∧ u = (fX4_bestPlace oc ou p0).2) (qW D (fun (u : OV) => wX4 hq hc hu hi hg hy hw ++ wX0 cI hc ac oc ++ wX0 cI hu au u) (va_A (wX4 hq hc hu hi hg hy hw ++ wX0 cI hc ac oc ++ wX0 cI hu au ou) sz)) (va_A (wX4 hq hc hu hi hg hy hw ++ wX0 cI hc ac oc ++ wX0 cI hu au ou) sz)) 0 0 (va_A (wX4 hq hc hu hi hg hy hw ++ wX0 cI hc ac oc ++ wX0 cI hu au ou) sz) := by
  refine Met.ofW (cc := cX4_bestPlace) (maxL := 6) (ret := (some .int)) (by decide) rfl ?_
  intro p e s m args below meth c s₁ B hml hv
  obtain ⟨rfl, hsz, hP, hK, hN, hD0⟩ := hv
  have hx := B.exec
  have hb := B.bytes
  have hr := B.returns
  have hts := atoms_spec (ws := wsX4_bestPlace) B.pre
  have hown : s.vm.findClass RX4 = some m.cls := findClass_of_methodNamed B.named
  have hlocks := B.notSynchronized
  subst hsz
  have hD := hD0.self (sz := s.heap.size)
  generalize hAe : va_A (wX4 hq hc hu hi hg hy hw ++ wX0 cI hc ac oc ++ wX0 cI hu au ou) s.heap.size = A at hD ⊢
  have hA : ∀ q : Nat, s.heap.size ≤ q → A q := fun q h => by rw [← hAe]; exact Or.inr h
  have hS : va_S A s.heap s.heap [] := va_S.rf
  have hP : va_P D vwCl (wX4 hq hc hu hi hg hy hw ++ wX0 cI hc ac oc ++ wX0 cI hu au ou) s.heap := hP
  have hl := lv_entry ([.ref hq, .int p0]) (n := 6) (Nat.le_of_ble_eq_true rfl)
  rw [lg_entry_eq]
  generalize (lg_sl ([.ref hq, .int p0]) ++ List.replicate (6 - (lg_sl ([.ref hq, .int p0])).length) Slot.unset).toArray = ls at hl ⊢
  have hl : lv_has ls 6 [(0, .ref hq), (1, .int p0)] := hl
  have hSF : CallFix p m c cX4_bestPlace 6 s _ wsX4_bestPlace RX4 := ⟨hx, hb, hml, hown, hts⟩
  have hi4 : ∀ w ∈ wsX40, w ∈ wsX4_bestPlace := by decide +kernel
  have hf10 : (Cond.fieldLink RX4 10 "UmbrellaVote" "city" "LUmbrellaVote$City;").before _ s = true := hts _ (by decide +kernel)
  have hi0 : ∀ w ∈ wsX00, w ∈ wsX4_bestPlace := by decide +kernel
  have hf152 : (Cond.fieldLink RX4 152 "UmbrellaVote$City" "slows" "[I").before _ s = true := hts _ (by decide +kernel)
  refine lv_iconst (v := 0) hx hb dX4_bestPlace_0 (by decide) ?_
  refine lv_istore_n (lv' := [(2, .int 0), (0, .ref hq), (1, .int p0)]) hx hb dX4_bestPlace_1 rfl hl (by decide) rfl (fun ls hl => ?_)
  refine lv_iconst (v := (-1)) hx hb dX4_bestPlace_2 (by decide) ?_
  refine lv_istore_n (lv' := [(3, .int (-1)), (2, .int 0), (0, .ref hq), (1, .int p0)]) hx hb dX4_bestPlace_3 rfl hl (by decide) rfl (fun ls hl => ?_)
  refine lv_iconst (v := 0) hx hb dX4_bestPlace_4 (by decide) ?_
  refine lv_istore (lv' := [(4, .int 0), (3, .int (-1)), (2, .int 0), (0, .ref hq), (1, .int p0)]) hx hb dX4_bestPlace_5 hl (by decide) rfl (fun ls hl => ?_)
  refine W_lpW (10) (fun k9 H9 locs9 ls9 => va_P D vwCl (wX4 hq hc hu hi hg hy hw ++ wX0 cI hc ac oc ++ wX0 cI hu au (fX4_bestPlace_L7 oc p0 (-1) 0 ou k9).2.2) H9 ∧ va_D A (wX4 hq hc hu hi hg hy hw ++ wX0 cI hc ac oc ++ wX0 cI hu au (fX4_bestPlace_L7 oc p0 (-1) 0 ou k9).2.2) ∧ va_S A s.heap H9 locs9 ∧ lv_has ls9 6 [(4, .int (nI k9)), (3, .int (fX4_bestPlace_L7 oc p0 (-1) 0 ou k9).1), (2, .int (fX4_bestPlace_L7 oc p0 (-1) 0 ou k9).2.1), (0, .ref hq), (1, .int p0)]) ⟨hP, hD, hS, lv_sub hl [0, 1, 2, 3, 4] rfl⟩ ?_ ?_
  · intro k1 H locs ls hk1 hI9 ih1
    obtain ⟨hP, hD, hS, hl⟩ := hI9
    generalize hs1 : fX4_bestPlace_L7 oc p0 (-1) 0 ou k1 = y1 at hP hD hl
    obtain ⟨x3_1, x2_1, ou1⟩ := y1
    try dsimp only at hP hD hl
    have hP : va_P D vwCl (wX4 hq hc hu hi hg hy hw ++ wX0 cI hc ac oc ++ wX0 cI hu au ou1) H := hP
    have hD : va_D A (wX4 hq hc hu hi hg hy hw ++ wX0 cI hc ac oc ++ wX0 cI hu au ou1) := hD
    have hl : lv_has ls 6 [(4, .int (nI k1)), (3, .int x3_1), (2, .int x2_1), (0, .ref hq), (1, .int p0)] := hl
    refine lv_iload hx hb dX4_bestPlace_7 (lv_at hl 0 rfl) ?_
    refine lv_bipush (v := 10) hx hb dX4_bestPlace_9 (by decide) ?_
    refine lv_icmp_ge (tgt := 50) hx hb dX4_bestPlace_11 (by decide) (fun c2 => absurd c2 (nI_ge hk1 (by decide))) (fun c2 => ?_)
    refine lv_aload_n hx hb dX4_bestPlace_14 rfl (lv_at hl 3 rfl) ?_
    refine lv_iload_n hx hb dX4_bestPlace_15 rfl (lv_at hl 4 rfl) ?_
    refine lv_iload hx hb dX4_bestPlace_16 (lv_at hl 0 rfl) ?_
    refine lv_aload_n hx hb dX4_bestPlace_18 rfl (lv_at hl 3 rfl) ?_
    refine va_get (D := D) (ci := 4) (v := .ref hc) (C := RX4) (T := TX4) (N := 6) hx hb hts hi4 hown hK hP 0 rfl rfl 0 (by decide) hf10 (fun _ h9 => h9) rfl dX4_bestPlace_19 ?_
    refine va_get (D := D) (ci := 0) (v := .ref (ac 8)) (C := RX0) (T := TX0) (N := 12) hx hb hts hi0 hown hK hP 1 rfl rfl 8 (by decide) hf152 (fun _ h9 => h9) rfl dX4_bestPlace_22 ?_
    refine lv_iload_n hx hb dX4_bestPlace_25 rfl (lv_at hl 4 rfl) ?_
    refine va_iald (f := (oc.2 8)) hx hb hK hP 3 0 rfl rfl hp dX4_bestPlace_26 ?_
    refine wcVi (b := hq) (As := [.int p0, .int (nI k1), .int ((oc.2 8) p0.toNatClampNeg)]) (rest := []) (wr := []) (ws' := wX4 hq hc hu hi hg hy hw ++ wX0 cI hc ac oc ++ wX0 cI hu au (fX4_trialShare oc ou1 p0 (nI k1) ((oc.2 8) p0.toNatClampNeg)).2) hSF (kX4_trialShare l D cI cZ cC hq hi hg hy hw hc ac oc hu au ou1 p0 (nI k1) ((oc.2 8) p0.toNatClampNeg)) (cwV 3 hts gX4_bestPlace_X4_trialShare rfl rfl rfl (by decide +kernel) ⟨Nat.le_of_ble_eq_true rfl, Nat.le_of_ble_eq_true rfl⟩) (va_recv hK hP (ci := 4) (q0 := 0) rfl rfl) hP hD hS hA hK hN [0, 1, 2, 3, 4, 5, 6, 7, 8, 9, 10, 11, 12] [] [0, 1, 2, 3, 4, 5, 6, 7, 8, 9, 10, 11, 12] rfl (by decide) rfl (by decide) (by decide) rfl (by decide) rfl rfl hl.1 (Nat.le_of_ble_eq_true rfl) dX4_bestPlace_27 ⟨Nat.zero_le _, Nat.zero_le _⟩ (fun H locs hP hD hS => ?_)
    refine lv_istore (lv' := [(5, .int (fX4_trialShare oc ou1 p0 (nI k1) ((oc.2 8) p0.toNatClampNeg)).1), (4, .int (nI k1)), (3, .int x3_1), (2, .int x2_1), (0, .ref hq), (1, .int p0)]) hx hb dX4_bestPlace_30 hl (by decide) rfl (fun ls hl => ?_)
    refine lv_iload hx hb dX4_bestPlace_32 (lv_at hl 0 rfl) ?_
    refine lv_iload_n hx hb dX4_bestPlace_34 rfl (lv_at hl 2 rfl) ?_
    refine lv_icmp_le (tgt := 44) hx hb dX4_bestPlace_35 (by decide) (fun c3 => ?_) (fun c3 => ?_)
    · skip
      refine lv_iinc (v := ((nI k1) + 1)) (lv' := [(4, .int ((nI k1) + 1)), (5, .int (fX4_trialShare oc ou1 p0 (nI k1) ((oc.2 8) p0.toNatClampNeg)).1), (3, .int x3_1), (2, .int x2_1), (0, .ref hq), (1, .int p0)]) hx hb dX4_bestPlace_44 hl (k := 1) rfl rfl (by decide) rfl (fun ls hl => ?_)
      refine lv_goto (tgt := 7) hx hb dX4_bestPlace_47 (by decide) ?_
      have e8 : fX4_bestPlace_L7s oc p0 k1 x3_1 x2_1 ou1 = (x3_1, x2_1, (fX4_trialShare oc ou1 p0 (nI k1) ((oc.2 8) p0.toNatClampNeg)).2) := by
        simp only [fX4_bestPlace_L7s, if_pos c3]
      have e7 : fX4_bestPlace_L7 oc p0 (-1) 0 ou (k1 + 1) = (x3_1, x2_1, (fX4_trialShare oc ou1 p0 (nI k1) ((oc.2 8) p0.toNatClampNeg)).2) := by
        show fX4_bestPlace_L7s oc p0 k1 (fX4_bestPlace_L7 oc p0 (-1) 0 ou k1).1 (fX4_bestPlace_L7 oc p0 (-1) 0 ou k1).2.1 (fX4_bestPlace_L7 oc p0 (-1) 0 ou k1).2.2 = _
        rw [hs1]; exact e8
      have hl9 : lv_has ls 6 [(4, .int (nI (k1 + 1))), (3, .int (fX4_bestPlace_L7 oc p0 (-1) 0 ou (k1 + 1)).1), (2, .int (fX4_bestPlace_L7 oc p0 (-1) 0 ou (k1 + 1)).2.1), (0, .ref hq), (1, .int p0)] := by
        rw [nI_succ, e7]; exact lv_sub hl [0, 2, 3, 4, 5] rfl
      exact ih1 H locs ls ⟨by rw [e7]; exact hP, by rw [e7]; exact hD, hS, hl9⟩
    · skip
      refine lv_iload hx hb dX4_bestPlace_38 (lv_at hl 0 rfl) ?_
      refine lv_istore_n (lv' := [(3, .int (fX4_trialShare oc ou1 p0 (nI k1) ((oc.2 8) p0.toNatClampNeg)).1), (5, .int (fX4_trialShare oc ou1 p0 (nI k1) ((oc.2 8) p0.toNatClampNeg)).1), (4, .int (nI k1)), (2, .int x2_1), (0, .ref hq), (1, .int p0)]) hx hb dX4_bestPlace_40 rfl hl (by decide) rfl (fun ls hl => ?_)
      refine lv_iload hx hb dX4_bestPlace_41 (lv_at hl 2 rfl) ?_
      refine lv_istore_n (lv' := [(2, .int (nI k1)), (3, .int (fX4_trialShare oc ou1 p0 (nI k1) ((oc.2 8) p0.toNatClampNeg)).1), (5, .int (fX4_trialShare oc ou1 p0 (nI k1) ((oc.2 8) p0.toNatClampNeg)).1), (4, .int (nI k1)), (0, .ref hq), (1, .int p0)]) hx hb dX4_bestPlace_43 rfl hl (by decide) rfl (fun ls hl => ?_)
      refine lv_iinc (v := ((nI k1) + 1)) (lv' := [(4, .int ((nI k1) + 1)), (2, .int (nI k1)), (3, .int (fX4_trialShare oc ou1 p0 (nI k1) ((oc.2 8) p0.toNatClampNeg)).1), (5, .int (fX4_trialShare oc ou1 p0 (nI k1) ((oc.2 8) p0.toNatClampNeg)).1), (0, .ref hq), (1, .int p0)]) hx hb dX4_bestPlace_44 hl (k := 3) rfl rfl (by decide) rfl (fun ls hl => ?_)
      refine lv_goto (tgt := 7) hx hb dX4_bestPlace_47 (by decide) ?_
      have e8 : fX4_bestPlace_L7s oc p0 k1 x3_1 x2_1 ou1 = ((fX4_trialShare oc ou1 p0 (nI k1) ((oc.2 8) p0.toNatClampNeg)).1, (nI k1), (fX4_trialShare oc ou1 p0 (nI k1) ((oc.2 8) p0.toNatClampNeg)).2) := by
        simp only [fX4_bestPlace_L7s, if_neg c3]
      have e7 : fX4_bestPlace_L7 oc p0 (-1) 0 ou (k1 + 1) = ((fX4_trialShare oc ou1 p0 (nI k1) ((oc.2 8) p0.toNatClampNeg)).1, (nI k1), (fX4_trialShare oc ou1 p0 (nI k1) ((oc.2 8) p0.toNatClampNeg)).2) := by
        show fX4_bestPlace_L7s oc p0 k1 (fX4_bestPlace_L7 oc p0 (-1) 0 ou k1).1 (fX4_bestPlace_L7 oc p0 (-1) 0 ou k1).2.1 (fX4_bestPlace_L7 oc p0 (-1) 0 ou k1).2.2 = _
        rw [hs1]; exact e8
      have hl9 : lv_has ls 6 [(4, .int (nI (k1 + 1))), (3, .int (fX4_bestPlace_L7 oc p0 (-1) 0 ou (k1 + 1)).1), (2, .int (fX4_bestPlace_L7 oc p0 (-1) 0 ou (k1 + 1)).2.1), (0, .ref hq), (1, .int p0)] := by
        rw [nI_succ, e7]; exact lv_sub hl [0, 2, 1, 4, 5] rfl
      exact ih1 H locs ls ⟨by rw [e7]; exact hP, by rw [e7]; exact hD, hS, hl9⟩
  intro H locs ls hI9
  obtain ⟨hP, hD, hS, hl⟩ := hI9
  refine lv_iload hx hb dX4_bestPlace_7 (lv_at hl 0 rfl) ?_
  refine lv_bipush (v := 10) hx hb dX4_bestPlace_9 (by decide) ?_
  refine lv_icmp_ge (tgt := 50) hx hb dX4_bestPlace_11 (by decide) (fun c4 => ?_) (fun c4 => absurd (nI_le (Nat.le_refl _) (by decide)) c4)
  refine lv_iload_n hx hb dX4_bestPlace_50 rfl (lv_at hl 2 rfl) ?_
  have e9 : fX4_bestPlace oc ou p0 = ((fX4_bestPlace_L7 oc p0 (-1) 0 ou (10)).2.1, (fX4_bestPlace_L7 oc p0 (-1) 0 ou (10)).2.2) := by
    rfl
  exact W.iret hx hb hr (fun t ht hW => ⟨⟨_, (fX4_bestPlace_L7 oc p0 (-1) 0 ou (10)).2.2, rfl, ⟨by rw [e9], by rw [e9]⟩, ⟨by rw [ht]; exact hP, hD⟩⟩, hS.F ht⟩) hS.2.2 dX4_bestPlace_51

set_option maxHeartbeats 4000000 in
set_option maxRecDepth 100000 in
theorem kX4_best (l : Launch) (D : va_G) (cI cZ cC : ClassId) (hq hi hg hy hw : Nat) (hc : Nat) (ac : Nat → Nat) (oc : OV) (hu : Nat) (au : Nat → Nat) (ou : OV) (p0 : Int32)  {sz : Nat} : Met l yX4_best wsX4_best ({ frames := 6, cells := 0, slots := 0, locals := 144 }) (pW D (tyv cI cZ cC) (wX4 hq hc hu hi hg hy hw ++ wX0 cI hc ac oc ++ wX0 cI hu au ou) sz [.ref hq, .int p0]) (va_Qi (fun r (u : OV) => r = (fX4_best oc ou p0).1 ∧ u = (fX4_best oc ou p0).2) (qW D (fun (u : OV) => wX4 hq hc hu hi hg hy hw ++ wX0 cI hc ac oc ++ wX0 cI hu au u) (va_A (wX4 hq hc hu hi hg hy hw ++ wX0 cI hc ac oc ++ wX0 cI hu au ou) sz)) (va_A (wX4 hq hc hu hi hg hy hw ++ wX0 cI hc ac oc ++ wX0 cI hu au ou) sz)) 0 0 (va_A (wX4 hq hc hu hi hg hy hw ++ wX0 cI hc ac oc ++ wX0 cI hu au ou) sz) := by
  refine Met.ofW (cc := cX4_best) (maxL := 2) (ret := (some .int)) (by decide) rfl ?_
  intro p e s m args below meth c s₁ B hml hv
  obtain ⟨rfl, hsz, hP, hK, hN, hD0⟩ := hv
  have hx := B.exec
  have hb := B.bytes
  have hr := B.returns
  have hts := atoms_spec (ws := wsX4_best) B.pre
  have hown : s.vm.findClass RX4 = some m.cls := findClass_of_methodNamed B.named
  have hlocks := B.notSynchronized
  subst hsz
  have hD := hD0.self (sz := s.heap.size)
  generalize hAe : va_A (wX4 hq hc hu hi hg hy hw ++ wX0 cI hc ac oc ++ wX0 cI hu au ou) s.heap.size = A at hD ⊢
  have hA : ∀ q : Nat, s.heap.size ≤ q → A q := fun q h => by rw [← hAe]; exact Or.inr h
  have hS : va_S A s.heap s.heap [] := va_S.rf
  have hP : va_P D vwCl (wX4 hq hc hu hi hg hy hw ++ wX0 cI hc ac oc ++ wX0 cI hu au ou) s.heap := hP
  have hl := lv_entry ([.ref hq, .int p0]) (n := 2) (Nat.le_of_ble_eq_true rfl)
  rw [lg_entry_eq]
  generalize (lg_sl ([.ref hq, .int p0]) ++ List.replicate (2 - (lg_sl ([.ref hq, .int p0])).length) Slot.unset).toArray = ls at hl ⊢
  have hl : lv_has ls 2 [(0, .ref hq), (1, .int p0)] := hl
  have hSF : CallFix p m c cX4_best 2 s _ wsX4_best RX4 := ⟨hx, hb, hml, hown, hts⟩
  have hi4 : ∀ w ∈ wsX40, w ∈ wsX4_best := by decide +kernel
  have hf10 : (Cond.fieldLink RX4 10 "UmbrellaVote" "city" "LUmbrellaVote$City;").before _ s = true := hts _ (by decide +kernel)
  refine lv_aload_n hx hb dX4_best_0 rfl (lv_at hl 0 rfl) ?_
  refine va_get (D := D) (ci := 4) (v := .ref hc) (C := RX4) (T := TX4) (N := 6) hx hb hts hi4 hown hK hP 0 rfl rfl 0 (by decide) hf10 (fun _ h9 => h9) rfl dX4_best_1 ?_
  refine lv_iload_n hx hb dX4_best_4 rfl (lv_at hl 1 rfl) ?_
  refine rcVi (b := hc) (As := [.int p0]) (rest := []) hSF (kX0_isThere l D cI cZ cC hc ac oc p0) (cwV 1 hts gX4_best_X0_isThere rfl rfl rfl (by decide +kernel) ⟨Nat.le_of_ble_eq_true rfl, Nat.le_of_ble_eq_true rfl⟩) (va_recv hK hP (ci := 0) (q0 := 1) rfl rfl) (hP.sub [1, 2, 3, 4, 5, 6] rfl) hK hN rfl rfl hl.1 (Nat.le_of_ble_eq_true rfl) dX4_best_5 ⟨Nat.zero_le _, Nat.zero_le _⟩ ?_
  refine lv_if_ne (tgt := 13) hx hb dX4_best_8 (by decide) (fun c1 => ?_) (fun c1 => ?_)
  · skip
    refine lv_aload_n hx hb dX4_best_13 rfl (lv_at hl 0 rfl) ?_
    refine lv_iload_n hx hb dX4_best_14 rfl (lv_at hl 1 rfl) ?_
    refine wcVi (b := hq) (As := [.int p0]) (rest := []) (wr := []) (ws' := wX4 hq hc hu hi hg hy hw ++ wX0 cI hc ac oc ++ wX0 cI hu au (fX4_bestPlace oc ou p0).2) hSF (kX4_bestPlace l D cI cZ cC hq hi hg hy hw hc ac oc hu au ou p0 (it6 (by with_reducible assumption))) (cwV 1 hts gX4_best_X4_bestPlace rfl rfl rfl (by decide +kernel) ⟨Nat.le_of_ble_eq_true rfl, Nat.le_of_ble_eq_true rfl⟩) (va_recv hK hP (ci := 4) (q0 := 0) rfl rfl) hP hD hS hA hK hN [0, 1, 2, 3, 4, 5, 6, 7, 8, 9, 10, 11, 12] [] [0, 1, 2, 3, 4, 5, 6, 7, 8, 9, 10, 11, 12] rfl (by decide) rfl (by decide) (by decide) rfl (by decide) rfl rfl hl.1 (Nat.le_of_ble_eq_true rfl) dX4_best_15 ⟨Nat.zero_le _, Nat.zero_le _⟩ (fun H locs hP hD hS => ?_)
    have e9 : fX4_best oc ou p0 = ((fX4_bestPlace oc ou p0).1, (fX4_bestPlace oc ou p0).2) := by
      simp only [fX4_best, if_neg c1]
    exact W.iret hx hb hr (fun t ht hW => ⟨⟨_, (fX4_bestPlace oc ou p0).2, rfl, ⟨by rw [e9], by rw [e9]⟩, ⟨by rw [ht]; exact hP, hD⟩⟩, hS.F ht⟩) hS.2.2 dX4_best_18
  · skip
    refine lv_iconst (v := (-1)) hx hb dX4_best_11 (by decide) ?_
    have e9 : fX4_best oc ou p0 = (((-1) : Int32), ou) := by
      simp only [fX4_best, if_pos c1]
    exact W.iret hx hb hr (fun t ht hW => ⟨⟨_, ou, rfl, ⟨by rw [e9], by rw [e9]⟩, ⟨by rw [ht]; exact hP, hD⟩⟩, hS.F ht⟩) hS.2.2 dX4_best_12

set_option maxHeartbeats 4000000 in
set_option maxRecDepth 100000 in
theorem kX4_bestChance (l : Launch) (D : va_G) (cI cZ cC : ClassId) (hq hi hg hy hw : Nat) (hc : Nat) (ac : Nat → Nat) (oc : OV) (hu : Nat) (au : Nat → Nat) (ou : OV) (p0 : Int32) (p1 : Int32)  {sz : Nat} : Met l yX4_bestChance wsX4_bestChance ({ frames := 6, cells := 0, slots := 0, locals := 144 }) (pW D (tyv cI cZ cC) (wX4 hq hc hu hi hg hy hw ++ wX0 cI hc ac oc ++ wX0 cI hu au ou) sz [.ref hq, .int p0, .int p1]) (va_Ql (fun r (u : OV) => r = (fX4_bestChance oc ou p0 p1).1 ∧ u = (fX4_bestChance oc ou p0 p1).2) (qW D (fun (u : OV) => wX4 hq hc hu hi hg hy hw ++ wX0 cI hc ac oc ++ wX0 cI hu au u) (va_A (wX4 hq hc hu hi hg hy hw ++ wX0 cI hc ac oc ++ wX0 cI hu au ou) sz)) (va_A (wX4 hq hc hu hi hg hy hw ++ wX0 cI hc ac oc ++ wX0 cI hu au ou) sz)) 0 0 (va_A (wX4 hq hc hu hi hg hy hw ++ wX0 cI hc ac oc ++ wX0 cI hu au ou) sz) := by
  refine Met.ofW (cc := cX4_bestChance) (maxL := 4) (ret := (some .long)) (by decide) rfl ?_
  intro p e s m args below meth c s₁ B hml hv
  obtain ⟨rfl, hsz, hP, hK, hN, hD0⟩ := hv
  have hx := B.exec
  have hb := B.bytes
  have hr := B.returns
  have hts := atoms_spec (ws := wsX4_bestChance) B.pre
  have hown : s.vm.findClass RX4 = some m.cls := findClass_of_methodNamed B.named
  have hlocks := B.notSynchronized
  subst hsz
  have hD := hD0.self (sz := s.heap.size)
  generalize hAe : va_A (wX4 hq hc hu hi hg hy hw ++ wX0 cI hc ac oc ++ wX0 cI hu au ou) s.heap.size = A at hD ⊢
  have hA : ∀ q : Nat, s.heap.size ≤ q → A q := fun q h => by rw [← hAe]; exact Or.inr h
  have hS : va_S A s.heap s.heap [] := va_S.rf
  have hP : va_P D vwCl (wX4 hq hc hu hi hg hy hw ++ wX0 cI hc ac oc ++ wX0 cI hu au ou) s.heap := hP
  have hl := lv_entry ([.ref hq, .int p0, .int p1]) (n := 4) (Nat.le_of_ble_eq_true rfl)
  rw [lg_entry_eq]
  generalize (lg_sl ([.ref hq, .int p0, .int p1]) ++ List.replicate (4 - (lg_sl ([.ref hq, .int p0, .int p1])).length) Slot.unset).toArray = ls at hl ⊢
  have hl : lv_has ls 4 [(0, .ref hq), (1, .int p0), (2, .int p1)] := hl
  have hSF : CallFix p m c cX4_bestChance 4 s _ wsX4_bestChance RX4 := ⟨hx, hb, hml, hown, hts⟩
  have hi4 : ∀ w ∈ wsX40, w ∈ wsX4_bestChance := by decide +kernel
  have hf10 : (Cond.fieldLink RX4 10 "UmbrellaVote" "city" "LUmbrellaVote$City;").before _ s = true := hts _ (by decide +kernel)
  have hi0 : ∀ w ∈ wsX00, w ∈ wsX4_bestChance := by decide +kernel
  have hf152 : (Cond.fieldLink RX4 152 "UmbrellaVote$City" "slows" "[I").before _ s = true := hts _ (by decide +kernel)
  refine lv_aload_n hx hb dX4_bestChance_0 rfl (lv_at hl 0 rfl) ?_
  refine va_get (D := D) (ci := 4) (v := .ref hc) (C := RX4) (T := TX4) (N := 6) hx hb hts hi4 hown hK hP 0 rfl rfl 0 (by decide) hf10 (fun _ h9 => h9) rfl dX4_bestChance_1 ?_
  refine lv_iload_n hx hb dX4_bestChance_4 rfl (lv_at hl 1 rfl) ?_
  refine rcVi (b := hc) (As := [.int p0]) (rest := []) hSF (kX0_isThere l D cI cZ cC hc ac oc p0) (cwV 1 hts gX4_bestChance_X0_isThere rfl rfl rfl (by decide +kernel) ⟨Nat.le_of_ble_eq_true rfl, Nat.le_of_ble_eq_true rfl⟩) (va_recv hK hP (ci := 0) (q0 := 1) rfl rfl) (hP.sub [1, 2, 3, 4, 5, 6] rfl) hK hN rfl rfl hl.1 (Nat.le_of_ble_eq_true rfl) dX4_bestChance_5 ⟨Nat.zero_le _, Nat.zero_le _⟩ ?_
  refine lv_if_ne (tgt := 15) hx hb dX4_bestChance_8 (by decide) (fun c1 => ?_) (fun c1 => ?_)
  · skip
    refine lv_iload_n hx hb dX4_bestChance_15 rfl (lv_at hl 2 rfl) ?_
    refine lv_iconst (v := 0) hx hb dX4_bestChance_16 (by decide) ?_
    refine lv_iconst (v := 1) hx hb dX4_bestChance_17 (by decide) ?_
    refine rcSi (As := [.int p1, .int 0, .int 1]) (rest := []) hSF (kX4_within l D cI cZ cC p1 0 1) (va_cwS 3 hts gX4_bestChance_X4_within rfl rfl rfl (by decide +kernel) ⟨Nat.le_of_ble_eq_true rfl, Nat.le_of_ble_eq_true rfl⟩) (hP.sub [] rfl) hK hN rfl rfl hl.1 (Nat.le_of_ble_eq_true rfl) dX4_bestChance_18 ⟨Nat.zero_le _, Nat.zero_le _⟩ ?_
    refine lv_if_ne (tgt := 28) hx hb dX4_bestChance_21 (by decide) (fun c2 => ?_) (fun c2 => ?_)
    · skip
      refine lv_aload_n hx hb dX4_bestChance_28 rfl (lv_at hl 0 rfl) ?_
      refine lv_iload_n hx hb dX4_bestChance_29 rfl (lv_at hl 1 rfl) ?_
      refine lv_aload_n hx hb dX4_bestChance_30 rfl (lv_at hl 0 rfl) ?_
      refine lv_iload_n hx hb dX4_bestChance_31 rfl (lv_at hl 1 rfl) ?_
      refine wcVi (b := hq) (As := [.int p0]) (rest := [.int p0, .ref hq]) (wr := []) (ws' := wX4 hq hc hu hi hg hy hw ++ wX0 cI hc ac oc ++ wX0 cI hu au (fX4_bestPlace oc ou p0).2) hSF (kX4_bestPlace l D cI cZ cC hq hi hg hy hw hc ac oc hu au ou p0 (it6 (by with_reducible assumption))) (cwV 1 hts gX4_bestChance_X4_bestPlace rfl rfl rfl (by decide +kernel) ⟨Nat.le_of_ble_eq_true rfl, Nat.le_of_ble_eq_true rfl⟩) (va_recv hK hP (ci := 4) (q0 := 0) rfl rfl) hP hD hS hA hK hN [0, 1, 2, 3, 4, 5, 6, 7, 8, 9, 10, 11, 12] [] [0, 1, 2, 3, 4, 5, 6, 7, 8, 9, 10, 11, 12] rfl (by decide) rfl (by decide) (by decide) rfl (by decide) rfl rfl hl.1 (Nat.le_of_ble_eq_true rfl) dX4_bestChance_32 ⟨Nat.zero_le _, Nat.zero_le _⟩ (fun H locs hP hD hS => ?_)
      refine lv_aload_n hx hb dX4_bestChance_35 rfl (lv_at hl 0 rfl) ?_
      refine va_get (D := D) (ci := 4) (v := .ref hc) (C := RX4) (T := TX4) (N := 6) hx hb hts hi4 hown hK hP 0 rfl rfl 0 (by decide) hf10 (fun _ h9 => h9) rfl dX4_bestChance_36 ?_
      refine va_get (D := D) (ci := 0) (v := .ref (ac 8)) (C := RX0) (T := TX0) (N := 12) hx hb hts hi0 hown hK hP 1 rfl rfl 8 (by decide) hf152 (fun _ h9 => h9) rfl dX4_bestChance_39 ?_
      refine lv_iload_n hx hb dX4_bestChance_42 rfl (lv_at hl 1 rfl) ?_
      refine va_iald (f := (oc.2 8)) hx hb hK hP 3 0 rfl rfl (it6 (by with_reducible assumption)) dX4_bestChance_43 ?_
      refine wcVi (b := hq) (As := [.int p0, .int (fX4_bestPlace oc ou p0).1, .int ((oc.2 8) p0.toNatClampNeg)]) (rest := []) (wr := []) (ws' := wX4 hq hc hu hi hg hy hw ++ wX0 cI hc ac oc ++ wX0 cI hu au (fX4_trialShare oc ((fX4_bestPlace oc ou p0).2) p0 ((fX4_bestPlace oc ou p0).1) ((oc.2 8) p0.toNatClampNeg)).2) hSF (kX4_trialShare l D cI cZ cC hq hi hg hy hw hc ac oc hu au (fX4_bestPlace oc ou p0).2 p0 ((fX4_bestPlace oc ou p0).1) ((oc.2 8) p0.toNatClampNeg)) (cwV 3 hts gX4_bestChance_X4_trialShare rfl rfl rfl (by decide +kernel) ⟨Nat.le_of_ble_eq_true rfl, Nat.le_of_ble_eq_true rfl⟩) (va_recv hK hP (ci := 4) (q0 := 0) rfl rfl) hP hD hS hA hK hN [0, 1, 2, 3, 4, 5, 6, 7, 8, 9, 10, 11, 12] [] [0, 1, 2, 3, 4, 5, 6, 7, 8, 9, 10, 11, 12] rfl (by decide) rfl (by decide) (by decide) rfl (by decide) rfl rfl hl.1 (Nat.le_of_ble_eq_true rfl) dX4_bestChance_44 ⟨Nat.zero_le _, Nat.zero_le _⟩ (fun H locs hP hD hS => ?_)
      refine lv_topi (fun x3 ex3 => ?_)
      refine lv_istore_n (lv' := [(3, .int x3), (0, .ref hq), (1, .int p0), (2, .int p1)]) hx hb dX4_bestChance_47 rfl hl (by decide) rfl (fun ls hl => ?_)
      refine lv_iload_n hx hb dX4_bestChance_48 rfl (lv_at hl 0 rfl) ?_
      refine lv_aload_n hx hb dX4_bestChance_49 rfl (lv_at hl 1 rfl) ?_
      refine va_get (D := D) (ci := 4) (v := .ref hc) (C := RX4) (T := TX4) (N := 6) hx hb hts hi4 hown hK hP 0 rfl rfl 0 (by decide) hf10 (fun _ h9 => h9) rfl dX4_bestChance_50 ?_
      refine rcVi (b := hc) (As := []) (rest := [.int x3]) hSF (kX0_allShares l D cI cZ cC hc ac oc) (cwV 0 hts gX4_bestChance_X0_allShares rfl rfl rfl (by decide +kernel) ⟨Nat.le_of_ble_eq_true rfl, Nat.le_of_ble_eq_true rfl⟩) (va_recv hK hP (ci := 0) (q0 := 1) rfl rfl) (hP.sub [1, 2, 3, 4, 5, 6] rfl) hK hN rfl rfl hl.1 (Nat.le_of_ble_eq_true rfl) dX4_bestChance_53 ⟨Nat.zero_le _, Nat.zero_le _⟩ ?_
      refine lv_iload_n hx hb dX4_bestChance_56 rfl (lv_at hl 3 rfl) ?_
      refine rcSl (As := [.int x3, .int (fX0_allShares oc), .int p1]) (rest := []) hSF (kX4_fraction l D cI cZ cC x3 (fX0_allShares oc) p1) (va_cwS 3 hts gX4_bestChance_X4_fraction rfl rfl rfl (by decide +kernel) ⟨Nat.le_of_ble_eq_true rfl, Nat.le_of_ble_eq_true rfl⟩) (hP.sub [] rfl) hK hN rfl rfl hl.1 (Nat.le_of_ble_eq_true rfl) dX4_bestChance_57 ⟨Nat.zero_le _, Nat.zero_le _⟩ ?_
      have e9 : fX4_bestChance oc ou p0 p1 = ((fX4_fraction x3 (fX0_allShares oc) p1), (fX4_trialShare oc ((fX4_bestPlace oc ou p0).2) p0 ((fX4_bestPlace oc ou p0).1) ((oc.2 8) p0.toNatClampNeg)).2) := by
        simp only [fX4_bestChance, if_neg c1, if_neg c2]
        first | rw [← ex3] | (simp only [if_neg c1, if_neg c2] at ex3; rw [← ex3])
        simp only [fX4_bestChance_x3, if_neg c1, if_neg c2]
      exact W.lret hx hb hr (fun t ht hW => ⟨⟨_, (fX4_trialShare oc ((fX4_bestPlace oc ou p0).2) p0 ((fX4_bestPlace oc ou p0).1) ((oc.2 8) p0.toNatClampNeg)).2, rfl, ⟨by rw [e9], by rw [e9]⟩, ⟨by rw [ht]; exact hP, hD⟩⟩, hS.F ht⟩) hS.2.2 dX4_bestChance_60
    · skip
      refine lv_ldc2 (v := (-1000000000000000002)) hx hb hown (hts (.constantLong RX4 137 (-1000000000000000002)) (by decide +kernel)) dX4_bestChance_24 ?_
      have e9 : fX4_bestChance oc ou p0 p1 = (((-1000000000000000002) : Int64), ou) := by
        simp only [fX4_bestChance, if_neg c1, if_pos c2]
      exact W.lret hx hb hr (fun t ht hW => ⟨⟨_, ou, rfl, ⟨by rw [e9], by rw [e9]⟩, ⟨by rw [ht]; exact hP, hD⟩⟩, hS.F ht⟩) hS.2.2 dX4_bestChance_27
  · skip
    refine lv_ldc2 (v := (-1000000000000000001)) hx hb hown (hts (.constantLong RX4 135 (-1000000000000000001)) (by decide +kernel)) dX4_bestChance_11 ?_
    have e9 : fX4_bestChance oc ou p0 p1 = (((-1000000000000000001) : Int64), ou) := by
      simp only [fX4_bestChance, if_pos c1]
    exact W.lret hx hb hr (fun t ht hW => ⟨⟨_, ou, rfl, ⟨by rw [e9], by rw [e9]⟩, ⟨by rw [ht]; exact hP, hD⟩⟩, hS.F ht⟩) hS.2.2 dX4_bestChance_14

set_option maxHeartbeats 4000000 in
set_option maxRecDepth 100000 in
theorem kX4_rests (l : Launch) (D : va_G) (cI cZ cC : ClassId) (hq hu hi hg hy : Nat) (hc : Nat) (ac : Nat → Nat) (oc : OV) (hw : Nat) (aw : Nat → Nat) (ow : OV) (p0 : Int32)  {sz : Nat} : Met l yX4_rests wsX4_rests ({ frames := 5, cells := 0, slots := 0, locals := 115 }) (pW D (tyv cI cZ cC) (wX4 hq hc hu hi hg hy hw ++ wX0 cI hc ac oc ++ wX3 cI hw aw ow) sz [.ref hq, .int p0]) (va_Qi (fun r (u : OV) => r = (fX4_rests oc ow p0).1 ∧ u = (fX4_rests oc ow p0).2) (qW D (fun (u : OV) => wX4 hq hc hu hi hg hy hw ++ wX0 cI hc ac oc ++ wX3 cI hw aw u) (va_A (wX4 hq hc hu hi hg hy hw ++ wX0 cI hc ac oc ++ wX3 cI hw aw ow) sz)) (va_A (wX4 hq hc hu hi hg hy hw ++ wX0 cI hc ac oc ++ wX3 cI hw aw ow) sz)) 0 0 (va_A (wX4 hq hc hu hi hg hy hw ++ wX0 cI hc ac oc ++ wX3 cI hw aw ow) sz) := by
  refine Met.ofW (cc := cX4_rests) (maxL := 2) (ret := (some .int)) (by decide) rfl ?_
  intro p e s m args below meth c s₁ B hml hv
  obtain ⟨rfl, hsz, hP, hK, hN, hD0⟩ := hv
  have hx := B.exec
  have hb := B.bytes
  have hr := B.returns
  have hts := atoms_spec (ws := wsX4_rests) B.pre
  have hown : s.vm.findClass RX4 = some m.cls := findClass_of_methodNamed B.named
  have hlocks := B.notSynchronized
  subst hsz
  have hD := hD0.self (sz := s.heap.size)
  generalize hAe : va_A (wX4 hq hc hu hi hg hy hw ++ wX0 cI hc ac oc ++ wX3 cI hw aw ow) s.heap.size = A at hD ⊢
  have hA : ∀ q : Nat, s.heap.size ≤ q → A q := fun q h => by rw [← hAe]; exact Or.inr h
  have hS : va_S A s.heap s.heap [] := va_S.rf
  have hP : va_P D vwCl (wX4 hq hc hu hi hg hy hw ++ wX0 cI hc ac oc ++ wX3 cI hw aw ow) s.heap := hP
  have hl := lv_entry ([.ref hq, .int p0]) (n := 2) (Nat.le_of_ble_eq_true rfl)
  rw [lg_entry_eq]
  generalize (lg_sl ([.ref hq, .int p0]) ++ List.replicate (2 - (lg_sl ([.ref hq, .int p0])).length) Slot.unset).toArray = ls at hl ⊢
  have hl : lv_has ls 2 [(0, .ref hq), (1, .int p0)] := hl
  have hSF : CallFix p m c cX4_rests 2 s _ wsX4_rests RX4 := ⟨hx, hb, hml, hown, hts⟩
  have hi4 : ∀ w ∈ wsX40, w ∈ wsX4_rests := by decide +kernel
  have hf10 : (Cond.fieldLink RX4 10 "UmbrellaVote" "city" "LUmbrellaVote$City;").before _ s = true := hts _ (by decide +kernel)
  have hi0 : ∀ w ∈ wsX00, w ∈ wsX4_rests := by decide +kernel
  have hf56 : (Cond.fieldLink RX4 56 "UmbrellaVote$City" "there" "I").before _ s = true := hts _ (by decide +kernel)
  have hf40 : (Cond.fieldLink RX4 40 "UmbrellaVote" "resting" "LUmbrellaVote$Resting;").before _ s = true := hts _ (by decide +kernel)
  refine lv_aload_n hx hb dX4_rests_0 rfl (lv_at hl 0 rfl) ?_
  refine va_get (D := D) (ci := 4) (v := .ref hc) (C := RX4) (T := TX4) (N := 6) hx hb hts hi4 hown hK hP 0 rfl rfl 0 (by decide) hf10 (fun _ h9 => h9) rfl dX4_rests_1 ?_
  refine va_get (D := D) (ci := 0) (v := .int (oc.1 2)) (C := RX0) (T := TX0) (N := 12) hx hb hts hi0 hown hK hP 1 rfl rfl 2 (by decide) hf56 (fun _ h9 => h9) rfl dX4_rests_4 ?_
  refine rcSi (As := [.int (oc.1 2)]) (rest := []) hSF (kJ6_bitCount_0f7a4 l D cI cZ cC (oc.1 2)) (va_cwS 1 hts gX4_rests_J6_bitCount_0f7a4 rfl rfl rfl (by decide +kernel) ⟨Nat.le_of_ble_eq_true rfl, Nat.le_of_ble_eq_true rfl⟩) (hP.sub [] rfl) hK hN rfl rfl hl.1 (Nat.le_of_ble_eq_true rfl) dX4_rests_7 ⟨Nat.zero_le _, Nat.zero_le _⟩ ?_
  refine lv_iconst (v := 3) hx hb dX4_rests_10 (by decide) ?_
  refine lv_icmp_le (tgt := 17) hx hb dX4_rests_11 (by decide) (fun c1 => ?_) (fun c1 => ?_)
  · skip
    refine lv_aload_n hx hb dX4_rests_17 rfl (lv_at hl 0 rfl) ?_
    refine va_get (D := D) (ci := 4) (v := .ref hw) (C := RX4) (T := TX4) (N := 6) hx hb hts hi4 hown hK hP 0 rfl rfl 5 (by decide) hf40 (fun _ h9 => h9) rfl dX4_rests_18 ?_
    refine lv_aload_n hx hb dX4_rests_21 rfl (lv_at hl 0 rfl) ?_
    refine va_get (D := D) (ci := 4) (v := .ref hc) (C := RX4) (T := TX4) (N := 6) hx hb hts hi4 hown hK hP 0 rfl rfl 0 (by decide) hf10 (fun _ h9 => h9) rfl dX4_rests_22 ?_
    refine wcVv (b := hw) (As := [.ref hc]) (rest := []) (wr := [(hq, .inr (4, [.ref hc, .ref hu, .ref hi, .ref hg, .ref hy, .ref hw]))]) (ws' := wX4 hq hc hu hi hg hy hw ++ wX0 cI hc ac oc ++ wX3 cI hw aw (fX3_weigh ow oc)) hSF (kX3_weigh l D cI cZ cC hw aw ow hc ac oc) (cwV 1 hts gX4_rests_X3_weigh rfl rfl rfl (by decide +kernel) ⟨Nat.le_of_ble_eq_true rfl, Nat.le_of_ble_eq_true rfl⟩) (va_recv hK hP (ci := 3) (q0 := 7) rfl rfl) hP hD hS hA hK hN [7, 8, 9, 10, 11, 1, 2, 3, 4, 5, 6] [0] [0, 6, 7, 8, 9, 10, 11, 1, 2, 3, 4, 5] rfl (by decide) rfl (by decide) (by decide) rfl (by decide) rfl rfl hl.1 (Nat.le_of_ble_eq_true rfl) dX4_rests_25 ⟨Nat.zero_le _, Nat.zero_le _⟩ (fun H locs hP hD hS => ?_)
    refine lv_iload_n hx hb dX4_rests_28 rfl (lv_at hl 1 rfl) ?_
    refine lv_iconst (v := (-1)) hx hb dX4_rests_29 (by decide) ?_
    refine W_itei (P := p0 = (-1)) (a := (fX3_howMany (fX3_weigh ow oc))) (b := (fX3_row (fX3_weigh ow oc) p0)) (J := 51) (ls9 := ls) (rest9 := []) (fun ja3 jb3 => ?_) ?_
    · refine lv_icmp_ne (tgt := 43) hx hb dX4_rests_30 (by decide) (fun c2 => ?_) (fun c2 => ?_)
      · skip
        refine lv_aload_n hx hb dX4_rests_43 rfl (lv_at hl 0 rfl) ?_
        refine va_get (D := D) (ci := 4) (v := .ref hw) (C := RX4) (T := TX4) (N := 6) hx hb hts hi4 hown hK hP 0 rfl rfl 5 (by decide) hf40 (fun _ h9 => h9) rfl dX4_rests_44 ?_
        refine lv_iload_n hx hb dX4_rests_47 rfl (lv_at hl 1 rfl) ?_
        refine rcVi (b := hw) (As := [.int p0]) (rest := []) hSF (kX3_row l D cI cZ cC hw aw (fX3_weigh ow oc) p0) (cwV 1 hts gX4_rests_X3_row rfl rfl rfl (by decide +kernel) ⟨Nat.le_of_ble_eq_true rfl, Nat.le_of_ble_eq_true rfl⟩) (va_recv hK hP (ci := 3) (q0 := 7) rfl rfl) (hP.sub [7, 8, 9, 10, 11] rfl) hK hN rfl rfl hl.1 (Nat.le_of_ble_eq_true rfl) dX4_rests_48 ⟨Nat.zero_le _, Nat.zero_le _⟩ ?_
        exact jb3 c2
      · skip
        refine lv_aload_n hx hb dX4_rests_33 rfl (lv_at hl 0 rfl) ?_
        refine va_get (D := D) (ci := 4) (v := .ref hw) (C := RX4) (T := TX4) (N := 6) hx hb hts hi4 hown hK hP 0 rfl rfl 5 (by decide) hf40 (fun _ h9 => h9) rfl dX4_rests_34 ?_
        refine rcVi (b := hw) (As := []) (rest := []) hSF (kX3_howMany l D cI cZ cC hw aw (fX3_weigh ow oc)) (cwV 0 hts gX4_rests_X3_howMany rfl rfl rfl (by decide +kernel) ⟨Nat.le_of_ble_eq_true rfl, Nat.le_of_ble_eq_true rfl⟩) (va_recv hK hP (ci := 3) (q0 := 7) rfl rfl) (hP.sub [7, 8, 9, 10, 11] rfl) hK hN rfl rfl hl.1 (Nat.le_of_ble_eq_true rfl) dX4_rests_37 ⟨Nat.zero_le _, Nat.zero_le _⟩ ?_
        refine lv_goto (tgt := 51) hx hb dX4_rests_40 (by decide) ?_
        exact ja3 c2
    have e9 : fX4_rests oc ow p0 = ((if p0 = (-1) then (fX3_howMany (fX3_weigh ow oc)) else (fX3_row (fX3_weigh ow oc) p0)), (fX3_weigh ow oc)) := by
      simp only [fX4_rests, if_pos c1]
    exact W.iret hx hb hr (fun t ht hW => ⟨⟨_, (fX3_weigh ow oc), rfl, ⟨by rw [e9], by rw [e9]⟩, ⟨by rw [ht]; exact hP, hD⟩⟩, hS.F ht⟩) hS.2.2 dX4_rests_51
  · skip
    refine lv_bipush (v := (-4)) hx hb dX4_rests_14 (by decide) ?_
    have e9 : fX4_rests oc ow p0 = (((-4) : Int32), ow) := by
      simp only [fX4_rests, if_neg c1]
    exact W.iret hx hb hr (fun t ht hW => ⟨⟨_, ow, rfl, ⟨by rw [e9], by rw [e9]⟩, ⟨by rw [ht]; exact hP, hD⟩⟩, hS.F ht⟩) hS.2.2 dX4_rests_16

set_option maxHeartbeats 4000000 in
set_option maxRecDepth 100000 in
theorem kX4_coup (l : Launch) (D : va_G) (cI cZ cC : ClassId) (hq hu hi hg hy hw : Nat) (hc : Nat) (ac : Nat → Nat) (oc : OV) (p0 : Int32)  : Met l yX4_coup wsX4_coup ({ frames := 4, cells := 0, slots := 0, locals := 94 }) (pR D (tyv cI cZ cC) (wX4 hq hc hu hi hg hy hw ++ wX0 cI hc ac oc) [.ref hq, .int p0]) (vp_Si (fun r => r = fX4_coup oc p0)) 0 0 (fun _ => False) := by
  refine Met.ofW (cc := cX4_coup) (maxL := 3) (ret := (some .int)) (by decide) rfl ?_
  intro p e s m args below meth c s₁ B hml hv
  obtain ⟨rfl, hP, hK, hN⟩ := hv
  have hx := B.exec
  have hb := B.bytes
  have hr := B.returns
  have hts := atoms_spec (ws := wsX4_coup) B.pre
  have hown : s.vm.findClass RX4 = some m.cls := findClass_of_methodNamed B.named
  have hlocks := B.notSynchronized
  have hP : va_P D vwCl (wX4 hq hc hu hi hg hy hw ++ wX0 cI hc ac oc) s.heap := hP
  have hl := lv_entry ([.ref hq, .int p0]) (n := 3) (Nat.le_of_ble_eq_true rfl)
  rw [lg_entry_eq]
  generalize (lg_sl ([.ref hq, .int p0]) ++ List.replicate (3 - (lg_sl ([.ref hq, .int p0])).length) Slot.unset).toArray = ls at hl ⊢
  have hl : lv_has ls 3 [(0, .ref hq), (1, .int p0)] := hl
  have hSF : CallFix p m c cX4_coup 3 s _ wsX4_coup RX4 := ⟨hx, hb, hml, hown, hts⟩
  have hi4 : ∀ w ∈ wsX40, w ∈ wsX4_coup := by decide +kernel
  have hf10 : (Cond.fieldLink RX4 10 "UmbrellaVote" "city" "LUmbrellaVote$City;").before _ s = true := hts _ (by decide +kernel)
  have hi0 : ∀ w ∈ wsX00, w ∈ wsX4_coup := by decide +kernel
  have hf169 : (Cond.fieldLink RX4 169 "UmbrellaVote$City" "places" "[I").before _ s = true := hts _ (by decide +kernel)
  refine lv_aload_n hx hb dX4_coup_0 rfl (lv_at hl 0 rfl) ?_
  refine va_get (D := D) (ci := 4) (v := .ref hc) (C := RX4) (T := TX4) (N := 6) hx hb hts hi4 hown hK hP 0 rfl rfl 0 (by decide) hf10 (fun _ h9 => h9) rfl dX4_coup_1 ?_
  refine lv_iload_n hx hb dX4_coup_4 rfl (lv_at hl 1 rfl) ?_
  refine rcVi (b := hc) (As := [.int p0]) (rest := []) hSF (kX0_isThere l D cI cZ cC hc ac oc p0) (cwV 1 hts gX4_coup_X0_isThere rfl rfl rfl (by decide +kernel) ⟨Nat.le_of_ble_eq_true rfl, Nat.le_of_ble_eq_true rfl⟩) (va_recv hK hP (ci := 0) (q0 := 1) rfl rfl) (hP.sub [1, 2, 3, 4, 5, 6] rfl) hK hN rfl rfl hl.1 (Nat.le_of_ble_eq_true rfl) dX4_coup_5 ⟨Nat.zero_le _, Nat.zero_le _⟩ ?_
  refine lv_if_ne (tgt := 13) hx hb dX4_coup_8 (by decide) (fun c1 => ?_) (fun c1 => ?_)
  · skip
    refine lv_aload_n hx hb dX4_coup_13 rfl (lv_at hl 0 rfl) ?_
    refine va_get (D := D) (ci := 4) (v := .ref hc) (C := RX4) (T := TX4) (N := 6) hx hb hts hi4 hown hK hP 0 rfl rfl 0 (by decide) hf10 (fun _ h9 => h9) rfl dX4_coup_14 ?_
    refine va_get (D := D) (ci := 0) (v := .ref (ac 7)) (C := RX0) (T := TX0) (N := 12) hx hb hts hi0 hown hK hP 1 rfl rfl 7 (by decide) hf169 (fun _ h9 => h9) rfl dX4_coup_17 ?_
    refine lv_iload_n hx hb dX4_coup_20 rfl (lv_at hl 1 rfl) ?_
    refine va_iald (f := (oc.2 7)) hx hb hK hP 2 0 rfl rfl (it6 (by with_reducible assumption)) dX4_coup_21 ?_
    refine lv_istore_n (lv' := [(2, .int ((oc.2 7) p0.toNatClampNeg)), (0, .ref hq), (1, .int p0)]) hx hb dX4_coup_22 rfl hl (by decide) rfl (fun ls hl => ?_)
    refine lv_aload_n hx hb dX4_coup_23 rfl (lv_at hl 1 rfl) ?_
    refine va_get (D := D) (ci := 4) (v := .ref hc) (C := RX4) (T := TX4) (N := 6) hx hb hts hi4 hown hK hP 0 rfl rfl 0 (by decide) hf10 (fun _ h9 => h9) rfl dX4_coup_24 ?_
    refine lv_iload_n hx hb dX4_coup_27 rfl (lv_at hl 0 rfl) ?_
    refine rcVi (b := hc) (As := [.int ((oc.2 7) p0.toNatClampNeg)]) (rest := []) hSF (kX0_sprinkled l D cI cZ cC hc ac oc ((oc.2 7) p0.toNatClampNeg)) (cwV 1 hts gX4_coup_X0_sprinkled rfl rfl rfl (by decide +kernel) ⟨Nat.le_of_ble_eq_true rfl, Nat.le_of_ble_eq_true rfl⟩) (va_recv hK hP (ci := 0) (q0 := 1) rfl rfl) (hP.sub [1, 2, 3, 4, 5, 6] rfl) hK hN rfl rfl hl.1 (Nat.le_of_ble_eq_true rfl) dX4_coup_28 ⟨Nat.zero_le _, Nat.zero_le _⟩ ?_
    refine lv_iconst (v := 1) hx hb dX4_coup_31 (by decide) ?_
    refine lv_iload_n hx hb dX4_coup_32 rfl (lv_at hl 2 rfl) ?_
    refine lv_ishl hx hb dX4_coup_33 ?_
    refine W_itei (P := (fX0_sprinkled oc ((oc.2 7) p0.toNatClampNeg)) = (1 <<< (p0 &&& 31))) (a := ((oc.2 7) p0.toNatClampNeg)) (b := (-6)) (J := 43) (ls9 := ls) (rest9 := []) (fun ja3 jb3 => ?_) ?_
    · refine lv_icmp_ne (tgt := 41) hx hb dX4_coup_34 (by decide) (fun c2 => ?_) (fun c2 => ?_)
      · skip
        refine lv_bipush (v := (-6)) hx hb dX4_coup_41 (by decide) ?_
        exact jb3 c2
      · skip
        refine lv_iload_n hx hb dX4_coup_37 rfl (lv_at hl 0 rfl) ?_
        refine lv_goto (tgt := 43) hx hb dX4_coup_38 (by decide) ?_
        exact ja3 c2
    have e9 : fX4_coup oc p0 = (if (fX0_sprinkled oc ((oc.2 7) p0.toNatClampNeg)) = (1 <<< (p0 &&& 31)) then ((oc.2 7) p0.toNatClampNeg) else (-6)) := by
      simp only [fX4_coup, if_neg c1]
    exact W.iret hx hb hr (fun t ht hW => ⟨_, rfl, e9.symm, ht⟩) (fun _ h9 => absurd h9 List.not_mem_nil) dX4_coup_43
  · skip
    refine lv_iconst (v := (-1)) hx hb dX4_coup_11 (by decide) ?_
    have e9 : fX4_coup oc p0 = (-1) := by
      simp only [fX4_coup, if_pos c1]
    exact W.iret hx hb hr (fun t ht hW => ⟨_, rfl, e9.symm, ht⟩) (fun _ h9 => absurd h9 List.not_mem_nil) dX4_coup_12

set_option maxHeartbeats 4000000 in
set_option maxRecDepth 100000 in
theorem kX4_quick (l : Launch) (D : va_G) (cI cZ cC : ClassId) (hq hi hg hy hw : Nat) (hc : Nat) (ac : Nat → Nat) (oc : OV) (hu : Nat) (au : Nat → Nat) (ou : OV) (p0 : Int32) (p1 : Int32) (p2 : Int32)  {sz : Nat} : Met l yX4_quick wsX4_quick ({ frames := 5, cells := 0, slots := 0, locals := 119 }) (pW D (tyv cI cZ cC) (wX4 hq hc hu hi hg hy hw ++ wX0 cI hc ac oc ++ wX0 cI hu au ou) sz [.ref hq, .int p0, .int p1, .int p2]) (va_Qi (fun r (u : OV) => r = (fX4_quick oc ou p0 p1 p2).1 ∧ u = (fX4_quick oc ou p0 p1 p2).2) (qW D (fun (u : OV) => wX4 hq hc hu hi hg hy hw ++ wX0 cI hc ac oc ++ wX0 cI hu au u) (va_A (wX4 hq hc hu hi hg hy hw ++ wX0 cI hc ac oc ++ wX0 cI hu au ou) sz)) (va_A (wX4 hq hc hu hi hg hy hw ++ wX0 cI hc ac oc ++ wX0 cI hu au ou) sz)) 0 0 (va_A (wX4 hq hc hu hi hg hy hw ++ wX0 cI hc ac oc ++ wX0 cI hu au ou) sz) := by
  refine Met.ofW (cc := cX4_quick) (maxL := 6) (ret := (some .int)) (by decide) rfl ?_
  intro p e s m args below meth c s₁ B hml hv
  obtain ⟨rfl, hsz, hP, hK, hN, hD0⟩ := hv
  have hx := B.exec
  have hb := B.bytes
  have hr := B.returns
  have hts := atoms_spec (ws := wsX4_quick) B.pre
  have hown : s.vm.findClass RX4 = some m.cls := findClass_of_methodNamed B.named
  have hlocks := B.notSynchronized
  subst hsz
  have hD := hD0.self (sz := s.heap.size)
  generalize hAe : va_A (wX4 hq hc hu hi hg hy hw ++ wX0 cI hc ac oc ++ wX0 cI hu au ou) s.heap.size = A at hD ⊢
  have hA : ∀ q : Nat, s.heap.size ≤ q → A q := fun q h => by rw [← hAe]; exact Or.inr h
  have hS : va_S A s.heap s.heap [] := va_S.rf
  have hP : va_P D vwCl (wX4 hq hc hu hi hg hy hw ++ wX0 cI hc ac oc ++ wX0 cI hu au ou) s.heap := hP
  have hl := lv_entry ([.ref hq, .int p0, .int p1, .int p2]) (n := 6) (Nat.le_of_ble_eq_true rfl)
  rw [lg_entry_eq]
  generalize (lg_sl ([.ref hq, .int p0, .int p1, .int p2]) ++ List.replicate (6 - (lg_sl ([.ref hq, .int p0, .int p1, .int p2])).length) Slot.unset).toArray = ls at hl ⊢
  have hl : lv_has ls 6 [(0, .ref hq), (1, .int p0), (2, .int p1), (3, .int p2)] := hl
  have hSF : CallFix p m c cX4_quick 6 s _ wsX4_quick RX4 := ⟨hx, hb, hml, hown, hts⟩
  have hi4 : ∀ w ∈ wsX40, w ∈ wsX4_quick := by decide +kernel
  have hf10 : (Cond.fieldLink RX4 10 "UmbrellaVote" "city" "LUmbrellaVote$City;").before _ s = true := hts _ (by decide +kernel)
  have hi0 : ∀ w ∈ wsX00, w ∈ wsX4_quick := by decide +kernel
  have hf169 : (Cond.fieldLink RX4 169 "UmbrellaVote$City" "places" "[I").before _ s = true := hts _ (by decide +kernel)
  refine lv_aload_n hx hb dX4_quick_0 rfl (lv_at hl 0 rfl) ?_
  refine va_get (D := D) (ci := 4) (v := .ref hc) (C := RX4) (T := TX4) (N := 6) hx hb hts hi4 hown hK hP 0 rfl rfl 0 (by decide) hf10 (fun _ h9 => h9) rfl dX4_quick_1 ?_
  refine lv_iload_n hx hb dX4_quick_4 rfl (lv_at hl 1 rfl) ?_
  refine rcVi (b := hc) (As := [.int p0]) (rest := []) hSF (kX0_isThere l D cI cZ cC hc ac oc p0) (cwV 1 hts gX4_quick_X0_isThere rfl rfl rfl (by decide +kernel) ⟨Nat.le_of_ble_eq_true rfl, Nat.le_of_ble_eq_true rfl⟩) (va_recv hK hP (ci := 0) (q0 := 1) rfl rfl) (hP.sub [1, 2, 3, 4, 5, 6] rfl) hK hN rfl rfl hl.1 (Nat.le_of_ble_eq_true rfl) dX4_quick_5 ⟨Nat.zero_le _, Nat.zero_le _⟩ ?_
  refine lv_if_ne (tgt := 13) hx hb dX4_quick_8 (by decide) (fun c1 => ?_) (fun c1 => ?_)
  · skip
    refine lv_iload_n hx hb dX4_quick_13 rfl (lv_at hl 3 rfl) ?_
    refine lv_iconst (v := 1) hx hb dX4_quick_14 (by decide) ?_
    refine lv_bipush (v := 100) hx hb dX4_quick_15 (by decide) ?_
    refine rcSi (As := [.int p2, .int 1, .int 100]) (rest := []) hSF (kX4_within l D cI cZ cC p2 1 100) (va_cwS 3 hts gX4_quick_X4_within rfl rfl rfl (by decide +kernel) ⟨Nat.le_of_ble_eq_true rfl, Nat.le_of_ble_eq_true rfl⟩) (hP.sub [] rfl) hK hN rfl rfl hl.1 (Nat.le_of_ble_eq_true rfl) dX4_quick_17 ⟨Nat.zero_le _, Nat.zero_le _⟩ ?_
    refine lv_if_eq (tgt := 32) hx hb dX4_quick_20 (by decide) (fun c2 => ?_) (fun c2 => ?_)
    · skip
      refine lv_bipush (v := (-2)) hx hb dX4_quick_32 (by decide) ?_
      have e9 : fX4_quick oc ou p0 p1 p2 = (((-2) : Int32), ou) := by
        simp only [fX4_quick, if_neg c1, if_pos c2]
      exact W.iret hx hb hr (fun t ht hW => ⟨⟨_, ou, rfl, ⟨by rw [e9], by rw [e9]⟩, ⟨by rw [ht]; exact hP, hD⟩⟩, hS.F ht⟩) hS.2.2 dX4_quick_34
    · skip
      refine lv_iload_n hx hb dX4_quick_23 rfl (lv_at hl 2 rfl) ?_
      refine lv_iconst (v := 0) hx hb dX4_quick_24 (by decide) ?_
      refine lv_iload_n hx hb dX4_quick_25 rfl (lv_at hl 3 rfl) ?_
      refine rcSi (As := [.int p1, .int 0, .int p2]) (rest := []) hSF (kX4_within l D cI cZ cC p1 0 p2) (va_cwS 3 hts gX4_quick_X4_within rfl rfl rfl (by decide +kernel) ⟨Nat.le_of_ble_eq_true rfl, Nat.le_of_ble_eq_true rfl⟩) (hP.sub [] rfl) hK hN rfl rfl hl.1 (Nat.le_of_ble_eq_true rfl) dX4_quick_26 ⟨Nat.zero_le _, Nat.zero_le _⟩ ?_
      refine lv_if_ne (tgt := 35) hx hb dX4_quick_29 (by decide) (fun c3 => ?_) (fun c3 => ?_)
      · skip
        refine lv_iload_n hx hb dX4_quick_35 rfl (lv_at hl 2 rfl) ?_
        refine lv_aload_n hx hb dX4_quick_36 rfl (lv_at hl 0 rfl) ?_
        refine va_get (D := D) (ci := 4) (v := .ref hc) (C := RX4) (T := TX4) (N := 6) hx hb hts hi4 hown hK hP 0 rfl rfl 0 (by decide) hf10 (fun _ h9 => h9) rfl dX4_quick_37 ?_
        refine rcVi (b := hc) (As := []) (rest := [.int p1]) hSF (kX0_allShares l D cI cZ cC hc ac oc) (cwV 0 hts gX4_quick_X0_allShares rfl rfl rfl (by decide +kernel) ⟨Nat.le_of_ble_eq_true rfl, Nat.le_of_ble_eq_true rfl⟩) (va_recv hK hP (ci := 0) (q0 := 1) rfl rfl) (hP.sub [1, 2, 3, 4, 5, 6] rfl) hK hN rfl rfl hl.1 (Nat.le_of_ble_eq_true rfl) dX4_quick_40 ⟨Nat.zero_le _, Nat.zero_le _⟩ ?_
        refine lv_imul hx hb dX4_quick_43 ?_
        refine lv_istore (lv' := [(4, .int (p1 * (fX0_allShares oc))), (0, .ref hq), (1, .int p0), (2, .int p1), (3, .int p2)]) hx hb dX4_quick_44 hl (by decide) rfl (fun ls hl => ?_)
        refine lv_bipush (v := 9) hx hb dX4_quick_46 (by decide) ?_
        refine lv_istore (lv' := [(5, .int 9), (4, .int (p1 * (fX0_allShares oc))), (0, .ref hq), (1, .int p0), (2, .int p1), (3, .int p2)]) hx hb dX4_quick_48 hl (by decide) rfl (fun ls hl => ?_)
        refine W_ltW (σ := OV) (10) (fun r9 k9 x9 H9 locs9 ls9 => va_P D vwCl (wX4 hq hc hu hi hg hy hw ++ wX0 cI hc ac oc ++ wX0 cI hu au x9) H9 ∧ va_D A (wX4 hq hc hu hi hg hy hw ++ wX0 cI hc ac oc ++ wX0 cI hu au x9) ∧ va_S A s.heap H9 locs9 ∧ lv_has ls9 6 [(5, .int (dn 9 k9)), (4, .int (p1 * (fX0_allShares oc))), (0, .ref hq), (1, .int p0), (2, .int p1), (3, .int p2)] ∧ fX4_quick_L50 oc p0 p1 p2 r9 k9 x9 = fX4_quick_L50 oc p0 p1 p2 (10) 0 ou) ou ⟨hP, hD, hS, lv_sub hl [0, 1, 2, 3, 4, 5] rfl, rfl⟩ ?_ ?_
        · intro r4 k4 y4 H locs ls hr4 hI9 ih4
          obtain ⟨hP, hD, hS, hl, hG4⟩ := hI9
          obtain ⟨ou4, en4⟩ : ∃ z, z = y4 := ⟨_, rfl⟩
          subst en4
          have hP : va_P D vwCl (wX4 hq hc hu hi hg hy hw ++ wX0 cI hc ac oc ++ wX0 cI hu au ou4) H := hP
          have hD : va_D A (wX4 hq hc hu hi hg hy hw ++ wX0 cI hc ac oc ++ wX0 cI hu au ou4) := hD
          have hG4 : fX4_quick_L50 oc p0 p1 p2 (r4 + 1) k4 ou4 = fX4_quick_L50 oc p0 p1 p2 (10) 0 ou := hG4
          have hl : lv_has ls 6 [(5, .int (dn 9 k4)), (4, .int (p1 * (fX0_allShares oc))), (0, .ref hq), (1, .int p0), (2, .int p1), (3, .int p2)] := hl
          have hk4 : k4 < 10 := by omega
          refine lv_iload hx hb dX4_quick_50 (lv_at hl 0 rfl) ?_
          refine lv_if_lt (tgt := 87) hx hb dX4_quick_52 (by decide) (fun c5 => absurd c5 (dn_nneg hk4 (by decide))) (fun c5 => ?_)
          refine lv_aload_n hx hb dX4_quick_55 rfl (lv_at hl 2 rfl) ?_
          refine lv_iload_n hx hb dX4_quick_56 rfl (lv_at hl 3 rfl) ?_
          refine lv_aload_n hx hb dX4_quick_57 rfl (lv_at hl 2 rfl) ?_
          refine va_get (D := D) (ci := 4) (v := .ref hc) (C := RX4) (T := TX4) (N := 6) hx hb hts hi4 hown hK hP 0 rfl rfl 0 (by decide) hf10 (fun _ h9 => h9) rfl dX4_quick_58 ?_
          refine va_get (D := D) (ci := 0) (v := .ref (ac 7)) (C := RX0) (T := TX0) (N := 12) hx hb hts hi0 hown hK hP 1 rfl rfl 7 (by decide) hf169 (fun _ h9 => h9) rfl dX4_quick_61 ?_
          refine lv_iload_n hx hb dX4_quick_64 rfl (lv_at hl 3 rfl) ?_
          refine va_iald (f := (oc.2 7)) hx hb hK hP 2 0 rfl rfl (it6 (by with_reducible assumption)) dX4_quick_65 ?_
          refine lv_iload hx hb dX4_quick_66 (lv_at hl 0 rfl) ?_
          refine wcVi (b := hq) (As := [.int p0, .int ((oc.2 7) p0.toNatClampNeg), .int (dn 9 k4)]) (rest := []) (wr := []) (ws' := wX4 hq hc hu hi hg hy hw ++ wX0 cI hc ac oc ++ wX0 cI hu au (fX4_trialShare oc ou4 p0 ((oc.2 7) p0.toNatClampNeg) (dn 9 k4)).2) hSF (kX4_trialShare l D cI cZ cC hq hi hg hy hw hc ac oc hu au ou4 p0 ((oc.2 7) p0.toNatClampNeg) (dn 9 k4)) (cwV 3 hts gX4_quick_X4_trialShare rfl rfl rfl (by decide +kernel) ⟨Nat.le_of_ble_eq_true rfl, Nat.le_of_ble_eq_true rfl⟩) (va_recv hK hP (ci := 4) (q0 := 0) rfl rfl) hP hD hS hA hK hN [0, 1, 2, 3, 4, 5, 6, 7, 8, 9, 10, 11, 12] [] [0, 1, 2, 3, 4, 5, 6, 7, 8, 9, 10, 11, 12] rfl (by decide) rfl (by decide) (by decide) rfl (by decide) rfl rfl hl.1 (Nat.le_of_ble_eq_true rfl) dX4_quick_68 ⟨Nat.zero_le _, Nat.zero_le _⟩ (fun H locs hP hD hS => ?_)
          refine lv_iload_n hx hb dX4_quick_71 rfl (lv_at hl 5 rfl) ?_
          refine lv_imul hx hb dX4_quick_72 ?_
          refine lv_iload hx hb dX4_quick_73 (lv_at hl 1 rfl) ?_
          refine lv_icmp_lt (tgt := 81) hx hb dX4_quick_75 (by decide) (fun c6 => ?_) (fun c6 => ?_)
          · skip
            refine lv_iinc (v := ((dn 9 k4) + (-1))) (lv' := [(5, .int ((dn 9 k4) + (-1))), (4, .int (p1 * (fX0_allShares oc))), (0, .ref hq), (1, .int p0), (2, .int p1), (3, .int p2)]) hx hb dX4_quick_81 hl (k := 0) rfl rfl (by decide) rfl (fun ls hl => ?_)
            refine lv_goto (tgt := 50) hx hb dX4_quick_84 (by decide) ?_
            have hl9 : lv_has ls 6 [(5, .int (dn 9 (k4 + 1))), (4, .int (p1 * (fX0_allShares oc))), (0, .ref hq), (1, .int p0), (2, .int p1), (3, .int p2)] := by
              rw [dn_succ hk4]; exact lv_sub hl [0, 1, 2, 3, 4, 5] rfl
            have e8 : fX4_quick_L50 oc p0 p1 p2 r4 (k4 + 1) ((fX4_trialShare oc ou4 p0 ((oc.2 7) p0.toNatClampNeg) (dn 9 k4)).2) = fX4_quick_L50 oc p0 p1 p2 (10) 0 ou := by
              rw [← hG4]
              simp only [fX4_quick_L50, if_pos c6]
            exact ih4 (fX4_trialShare oc ou4 p0 ((oc.2 7) p0.toNatClampNeg) (dn 9 k4)).2 H locs ls ⟨hP, hD, hS, hl9, e8⟩
          · skip
            refine lv_iload hx hb dX4_quick_78 (lv_at hl 0 rfl) ?_
            have e9 : fX4_quick oc ou p0 p1 p2 = ((dn 9 k4), (fX4_trialShare oc ou4 p0 ((oc.2 7) p0.toNatClampNeg) (dn 9 k4)).2) := by
              refine Eq.trans (b := fX4_quick_L50 oc p0 p1 p2 (10) 0 ou) ?_ ?_
              · simp only [fX4_quick, if_neg c1, if_neg c2, if_neg c3]
              · rw [← hG4]; simp only [fX4_quick_L50, if_neg c6]
            exact W.iret hx hb hr (fun t ht hW => ⟨⟨_, (fX4_trialShare oc ou4 p0 ((oc.2 7) p0.toNatClampNeg) (dn 9 k4)).2, rfl, ⟨by rw [e9], by rw [e9]⟩, ⟨by rw [ht]; exact hP, hD⟩⟩, hS.F ht⟩) hS.2.2 dX4_quick_80
        intro k4 y4 H locs ls hB4 hI9
        obtain ⟨hP, hD, hS, hl, hG4⟩ := hI9
        obtain ⟨ou4, en4⟩ : ∃ z, z = y4 := ⟨_, rfl⟩
        subst en4
        have hP : va_P D vwCl (wX4 hq hc hu hi hg hy hw ++ wX0 cI hc ac oc ++ wX0 cI hu au ou4) H := hP
        have hD : va_D A (wX4 hq hc hu hi hg hy hw ++ wX0 cI hc ac oc ++ wX0 cI hu au ou4) := hD
        have hG4 : fX4_quick_L50 oc p0 p1 p2 0 k4 ou4 = fX4_quick_L50 oc p0 p1 p2 (10) 0 ou := hG4
        have hl : lv_has ls 6 [(5, .int (dn 9 k4)), (4, .int (p1 * (fX0_allShares oc))), (0, .ref hq), (1, .int p0), (2, .int p1), (3, .int p2)] := hl
        refine lv_iload hx hb dX4_quick_50 (lv_at hl 0 rfl) ?_
        refine lv_if_lt (tgt := 87) hx hb dX4_quick_52 (by decide) (fun c7 => ?_) (fun c7 => absurd (by rw [hB4]; exact dn_neg 9) c7)
        refine lv_bipush (v := (-6)) hx hb dX4_quick_87 (by decide) ?_
        have e9 : fX4_quick oc ou p0 p1 p2 = (((-6) : Int32), ou4) := by
          refine Eq.trans (b := fX4_quick_L50 oc p0 p1 p2 (10) 0 ou) ?_ ?_
          · simp only [fX4_quick, if_neg c1, if_neg c2, if_neg c3]
          · rw [← hG4]; rfl
        exact W.iret hx hb hr (fun t ht hW => ⟨⟨_, ou4, rfl, ⟨by rw [e9], by rw [e9]⟩, ⟨by rw [ht]; exact hP, hD⟩⟩, hS.F ht⟩) hS.2.2 dX4_quick_89
      · skip
        refine lv_bipush (v := (-2)) hx hb dX4_quick_32 (by decide) ?_
        have e9 : fX4_quick oc ou p0 p1 p2 = (((-2) : Int32), ou) := by
          simp only [fX4_quick, if_neg c1, if_neg c2, if_pos c3]
        exact W.iret hx hb hr (fun t ht hW => ⟨⟨_, ou, rfl, ⟨by rw [e9], by rw [e9]⟩, ⟨by rw [ht]; exact hP, hD⟩⟩, hS.F ht⟩) hS.2.2 dX4_quick_34
  · skip
    refine lv_iconst (v := (-1)) hx hb dX4_quick_11 (by decide) ?_
    have e9 : fX4_quick oc ou p0 p1 p2 = (((-1) : Int32), ou) := by
      simp only [fX4_quick, if_pos c1]
    exact W.iret hx hb hr (fun t ht hW => ⟨⟨_, ou, rfl, ⟨by rw [e9], by rw [e9]⟩, ⟨by rw [ht]; exact hP, hD⟩⟩, hS.F ht⟩) hS.2.2 dX4_quick_12

set_option maxHeartbeats 4000000 in
set_option maxRecDepth 100000 in
theorem kX4_seen (l : Launch) (D : va_G) (cI cZ cC : ClassId) (hq hu hi hg hy hw : Nat) (hc : Nat) (ac : Nat → Nat) (oc : OV) (p0 : Int32) (p1 : Int32)  {sz : Nat} : Met l yX4_seen wsX4_seen ({ frames := 2, cells := 0, slots := 0, locals := 44 }) (pW D (tyv cI cZ cC) (wX4 hq hc hu hi hg hy hw ++ wX0 cI hc ac oc) sz [.ref hq, .int p0, .int p1]) (va_Qi (fun r (u : OV) => r = (fX4_seen oc p0 p1).1 ∧ u = (fX4_seen oc p0 p1).2) (qW D (fun (u : OV) => wX4 hq hc hu hi hg hy hw ++ wX0 cI hc ac u) (va_A (wX4 hq hc hu hi hg hy hw ++ wX0 cI hc ac oc) sz)) (va_A (wX4 hq hc hu hi hg hy hw ++ wX0 cI hc ac oc) sz)) 0 0 (va_A (wX4 hq hc hu hi hg hy hw ++ wX0 cI hc ac oc) sz) := by
  refine Met.ofW (cc := cX4_seen) (maxL := 3) (ret := (some .int)) (by decide) rfl ?_
  intro p e s m args below meth c s₁ B hml hv
  obtain ⟨rfl, hsz, hP, hK, hN, hD0⟩ := hv
  have hx := B.exec
  have hb := B.bytes
  have hr := B.returns
  have hts := atoms_spec (ws := wsX4_seen) B.pre
  have hown : s.vm.findClass RX4 = some m.cls := findClass_of_methodNamed B.named
  have hlocks := B.notSynchronized
  subst hsz
  have hD := hD0.self (sz := s.heap.size)
  generalize hAe : va_A (wX4 hq hc hu hi hg hy hw ++ wX0 cI hc ac oc) s.heap.size = A at hD ⊢
  have hA : ∀ q : Nat, s.heap.size ≤ q → A q := fun q h => by rw [← hAe]; exact Or.inr h
  have hS : va_S A s.heap s.heap [] := va_S.rf
  have hP : va_P D vwCl (wX4 hq hc hu hi hg hy hw ++ wX0 cI hc ac oc) s.heap := hP
  have hl := lv_entry ([.ref hq, .int p0, .int p1]) (n := 3) (Nat.le_of_ble_eq_true rfl)
  rw [lg_entry_eq]
  generalize (lg_sl ([.ref hq, .int p0, .int p1]) ++ List.replicate (3 - (lg_sl ([.ref hq, .int p0, .int p1])).length) Slot.unset).toArray = ls at hl ⊢
  have hl : lv_has ls 3 [(0, .ref hq), (1, .int p0), (2, .int p1)] := hl
  have hSF : CallFix p m c cX4_seen 3 s _ wsX4_seen RX4 := ⟨hx, hb, hml, hown, hts⟩
  have hi4 : ∀ w ∈ wsX40, w ∈ wsX4_seen := by decide +kernel
  have hf10 : (Cond.fieldLink RX4 10 "UmbrellaVote" "city" "LUmbrellaVote$City;").before _ s = true := hts _ (by decide +kernel)
  have hi0 : ∀ w ∈ wsX00, w ∈ wsX4_seen := by decide +kernel
  have hf181 : (Cond.fieldLink RX4 181 "UmbrellaVote$City" "sights" "I").before _ s = true := hts _ (by decide +kernel)
  refine lv_iload_n hx hb dX4_seen_0 rfl (lv_at hl 1 rfl) ?_
  refine lv_iconst (v := 1) hx hb dX4_seen_1 (by decide) ?_
  refine lv_iconst (v := 2) hx hb dX4_seen_2 (by decide) ?_
  refine rcSi (As := [.int p0, .int 1, .int 2]) (rest := []) hSF (kX4_within l D cI cZ cC p0 1 2) (va_cwS 3 hts gX4_seen_X4_within rfl rfl rfl (by decide +kernel) ⟨Nat.le_of_ble_eq_true rfl, Nat.le_of_ble_eq_true rfl⟩) (hP.sub [] rfl) hK hN rfl rfl hl.1 (Nat.le_of_ble_eq_true rfl) dX4_seen_3 ⟨Nat.zero_le _, Nat.zero_le _⟩ ?_
  refine lv_if_eq (tgt := 20) hx hb dX4_seen_6 (by decide) (fun c1 => ?_) (fun c1 => ?_)
  · skip
    refine lv_iload_n hx hb dX4_seen_20 rfl (lv_at hl 1 rfl) ?_
    refine lv_iconst (v := 0) hx hb dX4_seen_21 (by decide) ?_
    refine lv_iconst (v := 2) hx hb dX4_seen_22 (by decide) ?_
    refine rcSi (As := [.int p0, .int 0, .int 2]) (rest := []) hSF (kX4_within l D cI cZ cC p0 0 2) (va_cwS 3 hts gX4_seen_X4_within rfl rfl rfl (by decide +kernel) ⟨Nat.le_of_ble_eq_true rfl, Nat.le_of_ble_eq_true rfl⟩) (hP.sub [] rfl) hK hN rfl rfl hl.1 (Nat.le_of_ble_eq_true rfl) dX4_seen_23 ⟨Nat.zero_le _, Nat.zero_le _⟩ ?_
    refine lv_if_eq (tgt := 43) hx hb dX4_seen_26 (by decide) (fun c2 => ?_) (fun c2 => ?_)
    · skip
      refine lv_bipush (v := (-2)) hx hb dX4_seen_43 (by decide) ?_
      have e9 : fX4_seen oc p0 p1 = (((-2) : Int32), oc) := by
        simp only [fX4_seen, if_pos c1, if_pos c2]
      exact W.iret hx hb hr (fun t ht hW => ⟨⟨_, oc, rfl, ⟨by rw [e9], by rw [e9]⟩, ⟨by rw [ht]; exact hP, hD⟩⟩, hS.F ht⟩) hS.2.2 dX4_seen_45
    · skip
      refine lv_iload_n hx hb dX4_seen_29 rfl (lv_at hl 1 rfl) ?_
      refine lv_if_ne (tgt := 46) hx hb dX4_seen_30 (by decide) (fun c3 => ?_) (fun c3 => ?_)
      · skip
        refine lv_aload_n hx hb dX4_seen_46 rfl (lv_at hl 0 rfl) ?_
        refine va_get (D := D) (ci := 4) (v := .ref hc) (C := RX4) (T := TX4) (N := 6) hx hb hts hi4 hown hK hP 0 rfl rfl 0 (by decide) hf10 (fun _ h9 => h9) rfl dX4_seen_47 ?_
        refine lv_iload_n hx hb dX4_seen_50 rfl (lv_at hl 1 rfl) ?_
        refine lv_iload_n hx hb dX4_seen_51 rfl (lv_at hl 2 rfl) ?_
        refine wcVi (b := hc) (As := [.int p0, .int p1]) (rest := []) (wr := [(hq, .inr (4, [.ref hc, .ref hu, .ref hi, .ref hg, .ref hy, .ref hw]))]) (ws' := wX4 hq hc hu hi hg hy hw ++ wX0 cI hc ac (fX0_addSight oc p0 p1).2) hSF (kX0_addSight l D cI cZ cC hc ac oc p0 p1) (cwV 2 hts gX4_seen_X0_addSight rfl rfl rfl (by decide +kernel) ⟨Nat.le_of_ble_eq_true rfl, Nat.le_of_ble_eq_true rfl⟩) (va_recv hK hP (ci := 0) (q0 := 1) rfl rfl) hP hD hS hA hK hN [1, 2, 3, 4, 5, 6] [0] [0, 1, 2, 3, 4, 5, 6] rfl (by decide) rfl (by decide) (by decide) rfl (by decide) rfl rfl hl.1 (Nat.le_of_ble_eq_true rfl) dX4_seen_52 ⟨Nat.zero_le _, Nat.zero_le _⟩ (fun H locs hP hD hS => ?_)
        refine W_itei (P := (fX0_addSight oc p0 p1).1 = 0) (a := (-4)) (b := ((fX0_addSight oc p0 p1).2.1 6)) (J := 70) (ls9 := ls) (rest9 := []) (fun ja5 jb5 => ?_) ?_
        · refine lv_if_eq (tgt := 68) hx hb dX4_seen_55 (by decide) (fun c4 => ?_) (fun c4 => ?_)
          · skip
            refine lv_bipush (v := (-4)) hx hb dX4_seen_68 (by decide) ?_
            exact ja5 c4
          · skip
            refine lv_aload_n hx hb dX4_seen_58 rfl (lv_at hl 0 rfl) ?_
            refine va_get (D := D) (ci := 4) (v := .ref hc) (C := RX4) (T := TX4) (N := 6) hx hb hts hi4 hown hK hP 0 rfl rfl 0 (by decide) hf10 (fun _ h9 => h9) rfl dX4_seen_59 ?_
            refine va_get (D := D) (ci := 0) (v := .int ((fX0_addSight oc p0 p1).2.1 6)) (C := RX0) (T := TX0) (N := 12) hx hb hts hi0 hown hK hP 1 rfl rfl 6 (by decide) hf181 (fun _ h9 => h9) rfl dX4_seen_62 ?_
            refine lv_goto (tgt := 70) hx hb dX4_seen_65 (by decide) ?_
            exact jb5 c4
        have e9 : fX4_seen oc p0 p1 = ((if (fX0_addSight oc p0 p1).1 = 0 then ((-4) : Int32) else ((fX0_addSight oc p0 p1).2.1 6)), (fX0_addSight oc p0 p1).2) := by
          simp only [fX4_seen, if_pos c1, if_neg c2, if_neg c3]
        exact W.iret hx hb hr (fun t ht hW => ⟨⟨_, (fX0_addSight oc p0 p1).2, rfl, ⟨by rw [e9], by rw [e9]⟩, ⟨by rw [ht]; exact hP, hD⟩⟩, hS.F ht⟩) hS.2.2 dX4_seen_70
      · skip
        refine lv_iload_n hx hb dX4_seen_33 rfl (lv_at hl 2 rfl) ?_
        refine lv_iconst (v := 0) hx hb dX4_seen_34 (by decide) ?_
        refine lv_bipush (v := 63) hx hb dX4_seen_35 (by decide) ?_
        refine rcSi (As := [.int p1, .int 0, .int 63]) (rest := []) hSF (kX4_within l D cI cZ cC p1 0 63) (va_cwS 3 hts gX4_seen_X4_within rfl rfl rfl (by decide +kernel) ⟨Nat.le_of_ble_eq_true rfl, Nat.le_of_ble_eq_true rfl⟩) (hP.sub [] rfl) hK hN rfl rfl hl.1 (Nat.le_of_ble_eq_true rfl) dX4_seen_37 ⟨Nat.zero_le _, Nat.zero_le _⟩ ?_
        refine lv_if_ne (tgt := 46) hx hb dX4_seen_40 (by decide) (fun c6 => ?_) (fun c6 => ?_)
        · skip
          refine lv_aload_n hx hb dX4_seen_46 rfl (lv_at hl 0 rfl) ?_
          refine va_get (D := D) (ci := 4) (v := .ref hc) (C := RX4) (T := TX4) (N := 6) hx hb hts hi4 hown hK hP 0 rfl rfl 0 (by decide) hf10 (fun _ h9 => h9) rfl dX4_seen_47 ?_
          refine lv_iload_n hx hb dX4_seen_50 rfl (lv_at hl 1 rfl) ?_
          refine lv_iload_n hx hb dX4_seen_51 rfl (lv_at hl 2 rfl) ?_
          refine wcVi (b := hc) (As := [.int p0, .int p1]) (rest := []) (wr := [(hq, .inr (4, [.ref hc, .ref hu, .ref hi, .ref hg, .ref hy, .ref hw]))]) (ws' := wX4 hq hc hu hi hg hy hw ++ wX0 cI hc ac (fX0_addSight oc p0 p1).2) hSF (kX0_addSight l D cI cZ cC hc ac oc p0 p1) (cwV 2 hts gX4_seen_X0_addSight rfl rfl rfl (by decide +kernel) ⟨Nat.le_of_ble_eq_true rfl, Nat.le_of_ble_eq_true rfl⟩) (va_recv hK hP (ci := 0) (q0 := 1) rfl rfl) hP hD hS hA hK hN [1, 2, 3, 4, 5, 6] [0] [0, 1, 2, 3, 4, 5, 6] rfl (by decide) rfl (by decide) (by decide) rfl (by decide) rfl rfl hl.1 (Nat.le_of_ble_eq_true rfl) dX4_seen_52 ⟨Nat.zero_le _, Nat.zero_le _⟩ (fun H locs hP hD hS => ?_)
          refine W_itei (P := (fX0_addSight oc p0 p1).1 = 0) (a := (-4)) (b := ((fX0_addSight oc p0 p1).2.1 6)) (J := 70) (ls9 := ls) (rest9 := []) (fun ja8 jb8 => ?_) ?_
          · refine lv_if_eq (tgt := 68) hx hb dX4_seen_55 (by decide) (fun c7 => ?_) (fun c7 => ?_)
            · skip
              refine lv_bipush (v := (-4)) hx hb dX4_seen_68 (by decide) ?_
              exact ja8 c7
            · skip
              refine lv_aload_n hx hb dX4_seen_58 rfl (lv_at hl 0 rfl) ?_
              refine va_get (D := D) (ci := 4) (v := .ref hc) (C := RX4) (T := TX4) (N := 6) hx hb hts hi4 hown hK hP 0 rfl rfl 0 (by decide) hf10 (fun _ h9 => h9) rfl dX4_seen_59 ?_
              refine va_get (D := D) (ci := 0) (v := .int ((fX0_addSight oc p0 p1).2.1 6)) (C := RX0) (T := TX0) (N := 12) hx hb hts hi0 hown hK hP 1 rfl rfl 6 (by decide) hf181 (fun _ h9 => h9) rfl dX4_seen_62 ?_
              refine lv_goto (tgt := 70) hx hb dX4_seen_65 (by decide) ?_
              exact jb8 c7
          have e9 : fX4_seen oc p0 p1 = ((if (fX0_addSight oc p0 p1).1 = 0 then ((-4) : Int32) else ((fX0_addSight oc p0 p1).2.1 6)), (fX0_addSight oc p0 p1).2) := by
            simp only [fX4_seen, if_pos c1, if_neg c2, if_pos c3, if_neg c6]
          exact W.iret hx hb hr (fun t ht hW => ⟨⟨_, (fX0_addSight oc p0 p1).2, rfl, ⟨by rw [e9], by rw [e9]⟩, ⟨by rw [ht]; exact hP, hD⟩⟩, hS.F ht⟩) hS.2.2 dX4_seen_70
        · skip
          refine lv_bipush (v := (-2)) hx hb dX4_seen_43 (by decide) ?_
          have e9 : fX4_seen oc p0 p1 = (((-2) : Int32), oc) := by
            simp only [fX4_seen, if_pos c1, if_neg c2, if_pos c3, if_pos c6]
          exact W.iret hx hb hr (fun t ht hW => ⟨⟨_, oc, rfl, ⟨by rw [e9], by rw [e9]⟩, ⟨by rw [ht]; exact hP, hD⟩⟩, hS.F ht⟩) hS.2.2 dX4_seen_45
  · skip
    refine lv_iload_n hx hb dX4_seen_9 rfl (lv_at hl 2 rfl) ?_
    refine lv_iconst (v := 0) hx hb dX4_seen_10 (by decide) ?_
    refine lv_iconst (v := 5) hx hb dX4_seen_11 (by decide) ?_
    refine rcSi (As := [.int p1, .int 0, .int 5]) (rest := []) hSF (kX4_within l D cI cZ cC p1 0 5) (va_cwS 3 hts gX4_seen_X4_within rfl rfl rfl (by decide +kernel) ⟨Nat.le_of_ble_eq_true rfl, Nat.le_of_ble_eq_true rfl⟩) (hP.sub [] rfl) hK hN rfl rfl hl.1 (Nat.le_of_ble_eq_true rfl) dX4_seen_12 ⟨Nat.zero_le _, Nat.zero_le _⟩ ?_
    refine lv_if_ne (tgt := 20) hx hb dX4_seen_15 (by decide) (fun c9 => ?_) (fun c9 => ?_)
    · skip
      refine lv_iload_n hx hb dX4_seen_20 rfl (lv_at hl 1 rfl) ?_
      refine lv_iconst (v := 0) hx hb dX4_seen_21 (by decide) ?_
      refine lv_iconst (v := 2) hx hb dX4_seen_22 (by decide) ?_
      refine rcSi (As := [.int p0, .int 0, .int 2]) (rest := []) hSF (kX4_within l D cI cZ cC p0 0 2) (va_cwS 3 hts gX4_seen_X4_within rfl rfl rfl (by decide +kernel) ⟨Nat.le_of_ble_eq_true rfl, Nat.le_of_ble_eq_true rfl⟩) (hP.sub [] rfl) hK hN rfl rfl hl.1 (Nat.le_of_ble_eq_true rfl) dX4_seen_23 ⟨Nat.zero_le _, Nat.zero_le _⟩ ?_
      refine lv_if_eq (tgt := 43) hx hb dX4_seen_26 (by decide) (fun c10 => ?_) (fun c10 => ?_)
      · skip
        refine lv_bipush (v := (-2)) hx hb dX4_seen_43 (by decide) ?_
        have e9 : fX4_seen oc p0 p1 = (((-2) : Int32), oc) := by
          simp only [fX4_seen, if_neg c1, if_neg c9, if_pos c10]
        exact W.iret hx hb hr (fun t ht hW => ⟨⟨_, oc, rfl, ⟨by rw [e9], by rw [e9]⟩, ⟨by rw [ht]; exact hP, hD⟩⟩, hS.F ht⟩) hS.2.2 dX4_seen_45
      · skip
        refine lv_iload_n hx hb dX4_seen_29 rfl (lv_at hl 1 rfl) ?_
        refine lv_if_ne (tgt := 46) hx hb dX4_seen_30 (by decide) (fun c11 => ?_) (fun c11 => ?_)
        · skip
          refine lv_aload_n hx hb dX4_seen_46 rfl (lv_at hl 0 rfl) ?_
          refine va_get (D := D) (ci := 4) (v := .ref hc) (C := RX4) (T := TX4) (N := 6) hx hb hts hi4 hown hK hP 0 rfl rfl 0 (by decide) hf10 (fun _ h9 => h9) rfl dX4_seen_47 ?_
          refine lv_iload_n hx hb dX4_seen_50 rfl (lv_at hl 1 rfl) ?_
          refine lv_iload_n hx hb dX4_seen_51 rfl (lv_at hl 2 rfl) ?_
          refine wcVi (b := hc) (As := [.int p0, .int p1]) (rest := []) (wr := [(hq, .inr (4, [.ref hc, .ref hu, .ref hi, .ref hg, .ref hy, .ref hw]))]) (ws' := wX4 hq hc hu hi hg hy hw ++ wX0 cI hc ac (fX0_addSight oc p0 p1).2) hSF (kX0_addSight l D cI cZ cC hc ac oc p0 p1) (cwV 2 hts gX4_seen_X0_addSight rfl rfl rfl (by decide +kernel) ⟨Nat.le_of_ble_eq_true rfl, Nat.le_of_ble_eq_true rfl⟩) (va_recv hK hP (ci := 0) (q0 := 1) rfl rfl) hP hD hS hA hK hN [1, 2, 3, 4, 5, 6] [0] [0, 1, 2, 3, 4, 5, 6] rfl (by decide) rfl (by decide) (by decide) rfl (by decide) rfl rfl hl.1 (Nat.le_of_ble_eq_true rfl) dX4_seen_52 ⟨Nat.zero_le _, Nat.zero_le _⟩ (fun H locs hP hD hS => ?_)
          refine W_itei (P := (fX0_addSight oc p0 p1).1 = 0) (a := (-4)) (b := ((fX0_addSight oc p0 p1).2.1 6)) (J := 70) (ls9 := ls) (rest9 := []) (fun ja13 jb13 => ?_) ?_
          · refine lv_if_eq (tgt := 68) hx hb dX4_seen_55 (by decide) (fun c12 => ?_) (fun c12 => ?_)
            · skip
              refine lv_bipush (v := (-4)) hx hb dX4_seen_68 (by decide) ?_
              exact ja13 c12
            · skip
              refine lv_aload_n hx hb dX4_seen_58 rfl (lv_at hl 0 rfl) ?_
              refine va_get (D := D) (ci := 4) (v := .ref hc) (C := RX4) (T := TX4) (N := 6) hx hb hts hi4 hown hK hP 0 rfl rfl 0 (by decide) hf10 (fun _ h9 => h9) rfl dX4_seen_59 ?_
              refine va_get (D := D) (ci := 0) (v := .int ((fX0_addSight oc p0 p1).2.1 6)) (C := RX0) (T := TX0) (N := 12) hx hb hts hi0 hown hK hP 1 rfl rfl 6 (by decide) hf181 (fun _ h9 => h9) rfl dX4_seen_62 ?_
              refine lv_goto (tgt := 70) hx hb dX4_seen_65 (by decide) ?_
              exact jb13 c12
          have e9 : fX4_seen oc p0 p1 = ((if (fX0_addSight oc p0 p1).1 = 0 then ((-4) : Int32) else ((fX0_addSight oc p0 p1).2.1 6)), (fX0_addSight oc p0 p1).2) := by
            simp only [fX4_seen, if_neg c1, if_neg c9, if_neg c10, if_neg c11]
          exact W.iret hx hb hr (fun t ht hW => ⟨⟨_, (fX0_addSight oc p0 p1).2, rfl, ⟨by rw [e9], by rw [e9]⟩, ⟨by rw [ht]; exact hP, hD⟩⟩, hS.F ht⟩) hS.2.2 dX4_seen_70
        · skip
          refine lv_iload_n hx hb dX4_seen_33 rfl (lv_at hl 2 rfl) ?_
          refine lv_iconst (v := 0) hx hb dX4_seen_34 (by decide) ?_
          refine lv_bipush (v := 63) hx hb dX4_seen_35 (by decide) ?_
          refine rcSi (As := [.int p1, .int 0, .int 63]) (rest := []) hSF (kX4_within l D cI cZ cC p1 0 63) (va_cwS 3 hts gX4_seen_X4_within rfl rfl rfl (by decide +kernel) ⟨Nat.le_of_ble_eq_true rfl, Nat.le_of_ble_eq_true rfl⟩) (hP.sub [] rfl) hK hN rfl rfl hl.1 (Nat.le_of_ble_eq_true rfl) dX4_seen_37 ⟨Nat.zero_le _, Nat.zero_le _⟩ ?_
          refine lv_if_ne (tgt := 46) hx hb dX4_seen_40 (by decide) (fun c14 => ?_) (fun c14 => ?_)
          · skip
            refine lv_aload_n hx hb dX4_seen_46 rfl (lv_at hl 0 rfl) ?_
            refine va_get (D := D) (ci := 4) (v := .ref hc) (C := RX4) (T := TX4) (N := 6) hx hb hts hi4 hown hK hP 0 rfl rfl 0 (by decide) hf10 (fun _ h9 => h9) rfl dX4_seen_47 ?_
            refine lv_iload_n hx hb dX4_seen_50 rfl (lv_at hl 1 rfl) ?_
            refine lv_iload_n hx hb dX4_seen_51 rfl (lv_at hl 2 rfl) ?_
            refine wcVi (b := hc) (As := [.int p0, .int p1]) (rest := []) (wr := [(hq, .inr (4, [.ref hc, .ref hu, .ref hi, .ref hg, .ref hy, .ref hw]))]) (ws' := wX4 hq hc hu hi hg hy hw ++ wX0 cI hc ac (fX0_addSight oc p0 p1).2) hSF (kX0_addSight l D cI cZ cC hc ac oc p0 p1) (cwV 2 hts gX4_seen_X0_addSight rfl rfl rfl (by decide +kernel) ⟨Nat.le_of_ble_eq_true rfl, Nat.le_of_ble_eq_true rfl⟩) (va_recv hK hP (ci := 0) (q0 := 1) rfl rfl) hP hD hS hA hK hN [1, 2, 3, 4, 5, 6] [0] [0, 1, 2, 3, 4, 5, 6] rfl (by decide) rfl (by decide) (by decide) rfl (by decide) rfl rfl hl.1 (Nat.le_of_ble_eq_true rfl) dX4_seen_52 ⟨Nat.zero_le _, Nat.zero_le _⟩ (fun H locs hP hD hS => ?_)
            refine W_itei (P := (fX0_addSight oc p0 p1).1 = 0) (a := (-4)) (b := ((fX0_addSight oc p0 p1).2.1 6)) (J := 70) (ls9 := ls) (rest9 := []) (fun ja16 jb16 => ?_) ?_
            · refine lv_if_eq (tgt := 68) hx hb dX4_seen_55 (by decide) (fun c15 => ?_) (fun c15 => ?_)
              · skip
                refine lv_bipush (v := (-4)) hx hb dX4_seen_68 (by decide) ?_
                exact ja16 c15
              · skip
                refine lv_aload_n hx hb dX4_seen_58 rfl (lv_at hl 0 rfl) ?_
                refine va_get (D := D) (ci := 4) (v := .ref hc) (C := RX4) (T := TX4) (N := 6) hx hb hts hi4 hown hK hP 0 rfl rfl 0 (by decide) hf10 (fun _ h9 => h9) rfl dX4_seen_59 ?_
                refine va_get (D := D) (ci := 0) (v := .int ((fX0_addSight oc p0 p1).2.1 6)) (C := RX0) (T := TX0) (N := 12) hx hb hts hi0 hown hK hP 1 rfl rfl 6 (by decide) hf181 (fun _ h9 => h9) rfl dX4_seen_62 ?_
                refine lv_goto (tgt := 70) hx hb dX4_seen_65 (by decide) ?_
                exact jb16 c15
            have e9 : fX4_seen oc p0 p1 = ((if (fX0_addSight oc p0 p1).1 = 0 then ((-4) : Int32) else ((fX0_addSight oc p0 p1).2.1 6)), (fX0_addSight oc p0 p1).2) := by
              simp only [fX4_seen, if_neg c1, if_neg c9, if_neg c10, if_pos c11, if_neg c14]
            exact W.iret hx hb hr (fun t ht hW => ⟨⟨_, (fX0_addSight oc p0 p1).2, rfl, ⟨by rw [e9], by rw [e9]⟩, ⟨by rw [ht]; exact hP, hD⟩⟩, hS.F ht⟩) hS.2.2 dX4_seen_70
          · skip
            refine lv_bipush (v := (-2)) hx hb dX4_seen_43 (by decide) ?_
            have e9 : fX4_seen oc p0 p1 = (((-2) : Int32), oc) := by
              simp only [fX4_seen, if_neg c1, if_neg c9, if_neg c10, if_pos c11, if_pos c14]
            exact W.iret hx hb hr (fun t ht hW => ⟨⟨_, oc, rfl, ⟨by rw [e9], by rw [e9]⟩, ⟨by rw [ht]; exact hP, hD⟩⟩, hS.F ht⟩) hS.2.2 dX4_seen_45
    · skip
      refine lv_iconst (v := (-1)) hx hb dX4_seen_18 (by decide) ?_
      have e9 : fX4_seen oc p0 p1 = (((-1) : Int32), oc) := by
        simp only [fX4_seen, if_neg c1, if_pos c9]
      exact W.iret hx hb hr (fun t ht hW => ⟨⟨_, oc, rfl, ⟨by rw [e9], by rw [e9]⟩, ⟨by rw [ht]; exact hP, hD⟩⟩, hS.F ht⟩) hS.2.2 dX4_seen_19

set_option maxHeartbeats 4000000 in
set_option maxRecDepth 100000 in
theorem kX4_forget (l : Launch) (D : va_G) (cI cZ cC : ClassId) (hq hu hi hg hy hw : Nat) (hc : Nat) (ac : Nat → Nat) (oc : OV)   {sz : Nat} : Met l yX4_forget wsX4_forget ({ frames := 0, cells := 0, slots := 0, locals := 0 }) (pW D (tyv cI cZ cC) (wX4 hq hc hu hi hg hy hw ++ wX0 cI hc ac oc) sz [.ref hq]) (va_Qi (fun r (u : OV) => r = (fX4_forget oc).1 ∧ u = (fX4_forget oc).2) (qW D (fun (u : OV) => wX4 hq hc hu hi hg hy hw ++ wX0 cI hc ac u) (va_A (wX4 hq hc hu hi hg hy hw ++ wX0 cI hc ac oc) sz)) (va_A (wX4 hq hc hu hi hg hy hw ++ wX0 cI hc ac oc) sz)) 0 0 (va_A (wX4 hq hc hu hi hg hy hw ++ wX0 cI hc ac oc) sz) := by
  refine Met.ofW (cc := cX4_forget) (maxL := 2) (ret := (some .int)) (by decide) rfl ?_
  intro p e s m args below meth c s₁ B hml hv
  obtain ⟨rfl, hsz, hP, hK, hN, hD0⟩ := hv
  have hx := B.exec
  have hb := B.bytes
  have hr := B.returns
  have hts := atoms_spec (ws := wsX4_forget) B.pre
  have hown : s.vm.findClass RX4 = some m.cls := findClass_of_methodNamed B.named
  have hlocks := B.notSynchronized
  subst hsz
  have hD := hD0.self (sz := s.heap.size)
  generalize hAe : va_A (wX4 hq hc hu hi hg hy hw ++ wX0 cI hc ac oc) s.heap.size = A at hD ⊢
  have hA : ∀ q : Nat, s.heap.size ≤ q → A q := fun q h => by rw [← hAe]; exact Or.inr h
  have hS : va_S A s.heap s.heap [] := va_S.rf
  have hP : va_P D vwCl (wX4 hq hc hu hi hg hy hw ++ wX0 cI hc ac oc) s.heap := hP
  have hl := lv_entry ([.ref hq]) (n := 2) (Nat.le_of_ble_eq_true rfl)
  rw [lg_entry_eq]
  generalize (lg_sl ([.ref hq]) ++ List.replicate (2 - (lg_sl ([.ref hq])).length) Slot.unset).toArray = ls at hl ⊢
  have hl : lv_has ls 2 [(0, .ref hq)] := hl
  have hSF : CallFix p m c cX4_forget 2 s _ wsX4_forget RX4 := ⟨hx, hb, hml, hown, hts⟩
  have hi4 : ∀ w ∈ wsX40, w ∈ wsX4_forget := by decide +kernel
  have hf10 : (Cond.fieldLink RX4 10 "UmbrellaVote" "city" "LUmbrellaVote$City;").before _ s = true := hts _ (by decide +kernel)
  have hi0 : ∀ w ∈ wsX00, w ∈ wsX4_forget := by decide +kernel
  have hf181 : (Cond.fieldLink RX4 181 "UmbrellaVote$City" "sights" "I").before _ s = true := hts _ (by decide +kernel)
  refine lv_aload_n hx hb dX4_forget_0 rfl (lv_at hl 0 rfl) ?_
  refine va_get (D := D) (ci := 4) (v := .ref hc) (C := RX4) (T := TX4) (N := 6) hx hb hts hi4 hown hK hP 0 rfl rfl 0 (by decide) hf10 (fun _ h9 => h9) rfl dX4_forget_1 ?_
  refine va_get (D := D) (ci := 0) (v := .int (oc.1 6)) (C := RX0) (T := TX0) (N := 12) hx hb hts hi0 hown hK hP 1 rfl rfl 6 (by decide) hf181 (fun _ h9 => h9) rfl dX4_forget_4 ?_
  refine lv_istore_n (lv' := [(1, .int (oc.1 6)), (0, .ref hq)]) hx hb dX4_forget_7 rfl hl (by decide) rfl (fun ls hl => ?_)
  refine lv_aload_n hx hb dX4_forget_8 rfl (lv_at hl 1 rfl) ?_
  refine va_get (D := D) (ci := 4) (v := .ref hc) (C := RX4) (T := TX4) (N := 6) hx hb hts hi4 hown hK hP 0 rfl rfl 0 (by decide) hf10 (fun _ h9 => h9) rfl dX4_forget_9 ?_
  refine lv_iconst (v := 0) hx hb dX4_forget_12 (by decide) ?_
  refine va_put (D := D) (ci := 0) (v := .int 0) (ty := .int) (C := RX0) (T := TX0) (N := 12) hx hb hts hi0 tyX0 tyX0_ok nmX0 hown hK hP hD hS 1 rfl rfl 6 (by decide) hf181 (fun _ h9 => h9) rfl (by decide +kernel) rfl rfl (Nat.le_of_ble_eq_true rfl) dX4_forget_13 (fun H locs hP hD hS => ?_)
  have hP : va_P D vwCl (wX4 hq hc hu hi hg hy hw ++ wX0 cI hc ac (us oc 6 0)) H := hP
  have hD : va_D A (wX4 hq hc hu hi hg hy hw ++ wX0 cI hc ac (us oc 6 0)) := hD
  refine lv_iload_n hx hb dX4_forget_16 rfl (lv_at hl 0 rfl) ?_
  have e9 : fX4_forget oc = ((oc.1 6), (us oc 6 0)) := by
    rfl
  exact W.iret hx hb hr (fun t ht hW => ⟨⟨_, (us oc 6 0), rfl, ⟨by rw [e9], by rw [e9]⟩, ⟨by rw [ht]; exact hP, hD⟩⟩, hS.F ht⟩) hS.2.2 dX4_forget_17

set_option maxHeartbeats 4000000 in
set_option maxRecDepth 100000 in
theorem kX4_fits (l : Launch) (D : va_G) (cI cZ cC : ClassId) (hq hu hi hg hy hw : Nat) (hc : Nat) (ac : Nat → Nat) (oc : OV)   : Met l yX4_fits wsX4_fits ({ frames := 4, cells := 0, slots := 0, locals := 92 }) (pR D (tyv cI cZ cC) (wX4 hq hc hu hi hg hy hw ++ wX0 cI hc ac oc) [.ref hq]) (vp_Si (fun r => r = fX4_fits oc)) 0 0 (fun _ => False) := by
  refine Met.ofW (cc := cX4_fits) (maxL := 3) (ret := (some .int)) (by decide) rfl ?_
  intro p e s m args below meth c s₁ B hml hv
  obtain ⟨rfl, hP, hK, hN⟩ := hv
  have hx := B.exec
  have hb := B.bytes
  have hr := B.returns
  have hts := atoms_spec (ws := wsX4_fits) B.pre
  have hown : s.vm.findClass RX4 = some m.cls := findClass_of_methodNamed B.named
  have hlocks := B.notSynchronized
  have hP : va_P D vwCl (wX4 hq hc hu hi hg hy hw ++ wX0 cI hc ac oc) s.heap := hP
  have hl := lv_entry ([.ref hq]) (n := 3) (Nat.le_of_ble_eq_true rfl)
  rw [lg_entry_eq]
  generalize (lg_sl ([.ref hq]) ++ List.replicate (3 - (lg_sl ([.ref hq])).length) Slot.unset).toArray = ls at hl ⊢
  have hl : lv_has ls 3 [(0, .ref hq)] := hl
  have hSF : CallFix p m c cX4_fits 3 s _ wsX4_fits RX4 := ⟨hx, hb, hml, hown, hts⟩
  have hi4 : ∀ w ∈ wsX40, w ∈ wsX4_fits := by decide +kernel
  have hf10 : (Cond.fieldLink RX4 10 "UmbrellaVote" "city" "LUmbrellaVote$City;").before _ s = true := hts _ (by decide +kernel)
  refine lv_iconst (v := 0) hx hb dX4_fits_0 (by decide) ?_
  refine lv_istore_n (lv' := [(1, .int 0), (0, .ref hq)]) hx hb dX4_fits_1 rfl hl (by decide) rfl (fun ls hl => ?_)
  refine lv_iconst (v := 0) hx hb dX4_fits_2 (by decide) ?_
  refine lv_istore_n (lv' := [(2, .int 0), (1, .int 0), (0, .ref hq)]) hx hb dX4_fits_3 rfl hl (by decide) rfl (fun ls hl => ?_)
  refine W_lpR (10) (fun k9 ls9 => lv_has ls9 3 [(2, .int (nI k9)), (1, .int (fX4_fits_L4 oc 0 k9)), (0, .ref hq)]) (lv_sub hl [0, 1, 2] rfl) ?_ ?_
  · intro k1 ls hk1 hl ih1
    generalize hs1 : fX4_fits_L4 oc 0 k1 = y1 at hl
    obtain ⟨x1_1, en1⟩ : ∃ z, z = y1 := ⟨_, rfl⟩
    subst en1
    refine lv_iload_n hx hb dX4_fits_4 rfl (lv_at hl 0 rfl) ?_
    refine lv_bipush (v := 10) hx hb dX4_fits_5 (by decide) ?_
    refine lv_icmp_ge (tgt := 37) hx hb dX4_fits_7 (by decide) (fun c2 => absurd c2 (nI_ge hk1 (by decide))) (fun c2 => ?_)
    refine lv_iload_n hx hb dX4_fits_10 rfl (lv_at hl 1 rfl) ?_
    refine lv_iload_n hx hb dX4_fits_11 rfl (lv_at hl 0 rfl) ?_
    refine lv_aload_n hx hb dX4_fits_12 rfl (lv_at hl 2 rfl) ?_
    refine va_get (D := D) (ci := 4) (v := .ref hc) (C := RX4) (T := TX4) (N := 6) hx hb hts hi4 hown hK hP 0 rfl rfl 0 (by decide) hf10 (fun _ h9 => h9) rfl dX4_fits_13 ?_
    refine lv_aload_n hx hb dX4_fits_16 rfl (lv_at hl 2 rfl) ?_
    refine va_get (D := D) (ci := 4) (v := .ref hc) (C := RX4) (T := TX4) (N := 6) hx hb hts hi4 hown hK hP 0 rfl rfl 0 (by decide) hf10 (fun _ h9 => h9) rfl dX4_fits_17 ?_
    refine lv_iload_n hx hb dX4_fits_20 rfl (lv_at hl 0 rfl) ?_
    refine rcVi (b := hc) (As := [.int (nI k1)]) (rest := [.ref hc, .int (nI k1), .int x1_1]) hSF (kX0_rulers l D cI cZ cC hc ac oc (nI k1)) (cwV 1 hts gX4_fits_X0_rulers rfl rfl rfl (by decide +kernel) ⟨Nat.le_of_ble_eq_true rfl, Nat.le_of_ble_eq_true rfl⟩) (va_recv hK hP (ci := 0) (q0 := 1) rfl rfl) (hP.sub [1, 2, 3, 4, 5, 6] rfl) hK hN rfl rfl hl.1 (Nat.le_of_ble_eq_true rfl) dX4_fits_21 ⟨Nat.zero_le _, Nat.zero_le _⟩ ?_
    refine rcVi (b := hc) (As := [.int (fX0_rulers oc (nI k1))]) (rest := [.int (nI k1), .int x1_1]) hSF (kX0_fitsSights l D cI cZ cC hc ac oc (fX0_rulers oc (nI k1))) (cwV 1 hts gX4_fits_X0_fitsSights rfl rfl rfl (by decide +kernel) ⟨Nat.le_of_ble_eq_true rfl, Nat.le_of_ble_eq_true rfl⟩) (va_recv hK hP (ci := 0) (q0 := 1) rfl rfl) (hP.sub [1, 2, 3, 4, 5, 6] rfl) hK hN rfl rfl hl.1 (Nat.le_of_ble_eq_true rfl) dX4_fits_24 ⟨Nat.zero_le _, Nat.zero_le _⟩ ?_
    refine rcSi (As := [.int x1_1, .int (nI k1), .int (fX0_fitsSights oc (fX0_rulers oc (nI k1)))]) (rest := []) hSF (kX4_withBit l D cI cZ cC x1_1 (nI k1) (fX0_fitsSights oc (fX0_rulers oc (nI k1)))) (va_cwS 3 hts gX4_fits_X4_withBit rfl rfl rfl (by decide +kernel) ⟨Nat.le_of_ble_eq_true rfl, Nat.le_of_ble_eq_true rfl⟩) (hP.sub [] rfl) hK hN rfl rfl hl.1 (Nat.le_of_ble_eq_true rfl) dX4_fits_27 ⟨Nat.zero_le _, Nat.zero_le _⟩ ?_
    refine lv_istore_n (lv' := [(1, .int (fX4_withBit x1_1 (nI k1) (fX0_fitsSights oc (fX0_rulers oc (nI k1))))), (2, .int (nI k1)), (0, .ref hq)]) hx hb dX4_fits_30 rfl hl (by decide) rfl (fun ls hl => ?_)
    refine lv_iinc (v := ((nI k1) + 1)) (lv' := [(2, .int ((nI k1) + 1)), (1, .int (fX4_withBit x1_1 (nI k1) (fX0_fitsSights oc (fX0_rulers oc (nI k1))))), (0, .ref hq)]) hx hb dX4_fits_31 hl (k := 1) rfl rfl (by decide) rfl (fun ls hl => ?_)
    refine lv_goto (tgt := 4) hx hb dX4_fits_34 (by decide) ?_
    have e8 : fX4_fits_L4s oc k1 x1_1 = (fX4_withBit x1_1 (nI k1) (fX0_fitsSights oc (fX0_rulers oc (nI k1)))) := by
      rfl
    have e7 : fX4_fits_L4 oc 0 (k1 + 1) = (fX4_withBit x1_1 (nI k1) (fX0_fitsSights oc (fX0_rulers oc (nI k1)))) := by
      show fX4_fits_L4s oc k1 (fX4_fits_L4 oc 0 k1) = _
      rw [hs1]; exact e8
    have hl9 : lv_has ls 3 [(2, .int (nI (k1 + 1))), (1, .int (fX4_fits_L4 oc 0 (k1 + 1))), (0, .ref hq)] := by
      rw [nI_succ, e7]; exact lv_sub hl [0, 1, 2] rfl
    exact ih1 ls hl9
  intro ls hl
  refine lv_iload_n hx hb dX4_fits_4 rfl (lv_at hl 0 rfl) ?_
  refine lv_bipush (v := 10) hx hb dX4_fits_5 (by decide) ?_
  refine lv_icmp_ge (tgt := 37) hx hb dX4_fits_7 (by decide) (fun c3 => ?_) (fun c3 => absurd (nI_le (Nat.le_refl _) (by decide)) c3)
  refine lv_iload_n hx hb dX4_fits_37 rfl (lv_at hl 1 rfl) ?_
  have e9 : fX4_fits oc = (fX4_fits_L4 oc 0 (10)) := by
    rfl
  exact W.iret hx hb hr (fun t ht hW => ⟨_, rfl, e9.symm, ht⟩) (fun _ h9 => absurd h9 List.not_mem_nil) dX4_fits_38

set_option maxHeartbeats 4000000 in
set_option maxRecDepth 100000 in
theorem kX4_year (l : Launch) (D : va_G) (cI cZ cC : ClassId) (hq hu hi hg hw : Nat) (hc : Nat) (ac : Nat → Nat) (oc : OV) (hy : Nat) (ay : Nat → Nat) (oy : OV) (hd : Nat) (ad : Nat → Nat) (od : OV) (p0 : Int32) (p1 : Int32) (p2 : Int32)  {sz : Nat} : Met l yX4_year wsX4_year ({ frames := 4, cells := 0, slots := 0, locals := 102 }) (pW D (tyv cI cZ cC) (wX4 hq hc hu hi hg hy hw ++ wX0 cI hc ac oc ++ wX1 cI hd hy ay oy ++ wX0 cI hd ad od) sz [.ref hq, .int p0, .int p1, .int p2]) (va_Qi (fun r (u : OV × OV) => r = (fX4_year oc oy od p0 p1 p2).1 ∧ u = (fX4_year oc oy od p0 p1 p2).2) (qW D (fun (u : OV × OV) => wX4 hq hc hu hi hg hy hw ++ wX0 cI hc ac oc ++ wX1 cI hd hy ay u.2 ++ wX0 cI hd ad u.1) (va_A (wX4 hq hc hu hi hg hy hw ++ wX0 cI hc ac oc ++ wX1 cI hd hy ay oy ++ wX0 cI hd ad od) sz)) (va_A (wX4 hq hc hu hi hg hy hw ++ wX0 cI hc ac oc ++ wX1 cI hd hy ay oy ++ wX0 cI hd ad od) sz)) 0 0 (va_A (wX4 hq hc hu hi hg hy hw ++ wX0 cI hc ac oc ++ wX1 cI hd hy ay oy ++ wX0 cI hd ad od) sz) := by
  refine Met.ofW (cc := cX4_year) (maxL := 6) (ret := (some .int)) (by decide) rfl ?_
  intro p e s m args below meth c s₁ B hml hv
  obtain ⟨rfl, hsz, hP, hK, hN, hD0⟩ := hv
  have hx := B.exec
  have hb := B.bytes
  have hr := B.returns
  have hts := atoms_spec (ws := wsX4_year) B.pre
  have hown : s.vm.findClass RX4 = some m.cls := findClass_of_methodNamed B.named
  have hlocks := B.notSynchronized
  subst hsz
  have hD := hD0.self (sz := s.heap.size)
  generalize hAe : va_A (wX4 hq hc hu hi hg hy hw ++ wX0 cI hc ac oc ++ wX1 cI hd hy ay oy ++ wX0 cI hd ad od) s.heap.size = A at hD ⊢
  have hA : ∀ q : Nat, s.heap.size ≤ q → A q := fun q h => by rw [← hAe]; exact Or.inr h
  have hS : va_S A s.heap s.heap [] := va_S.rf
  have hP : va_P D vwCl (wX4 hq hc hu hi hg hy hw ++ wX0 cI hc ac oc ++ wX1 cI hd hy ay oy ++ wX0 cI hd ad od) s.heap := hP
  have hl := lv_entry ([.ref hq, .int p0, .int p1, .int p2]) (n := 6) (Nat.le_of_ble_eq_true rfl)
  rw [lg_entry_eq]
  generalize (lg_sl ([.ref hq, .int p0, .int p1, .int p2]) ++ List.replicate (6 - (lg_sl ([.ref hq, .int p0, .int p1, .int p2])).length) Slot.unset).toArray = ls at hl ⊢
  have hl : lv_has ls 6 [(0, .ref hq), (1, .int p0), (2, .int p1), (3, .int p2)] := hl
  have hSF : CallFix p m c cX4_year 6 s _ wsX4_year RX4 := ⟨hx, hb, hml, hown, hts⟩
  have hi4 : ∀ w ∈ wsX40, w ∈ wsX4_year := by decide +kernel
  have hf33 : (Cond.fieldLink RX4 33 "UmbrellaVote" "history" "LUmbrellaVote$History;").before _ s = true := hts _ (by decide +kernel)
  have hf10 : (Cond.fieldLink RX4 10 "UmbrellaVote" "city" "LUmbrellaVote$City;").before _ s = true := hts _ (by decide +kernel)
  have hi1 : ∀ w ∈ wsX10, w ∈ wsX4_year := by decide +kernel
  have hf122 : (Cond.fieldLink RX4 122 "UmbrellaVote$History" "reigns" "I").before _ s = true := hts _ (by decide +kernel)
  refine lv_iload_n hx hb dX4_year_0 rfl (lv_at hl 1 rfl) ?_
  refine lv_iconst (v := 0) hx hb dX4_year_1 (by decide) ?_
  refine lv_sipush (v := 9999) hx hb dX4_year_2 (by decide) ?_
  refine rcSi (As := [.int p0, .int 0, .int 9999]) (rest := []) hSF (kX4_within l D cI cZ cC p0 0 9999) (va_cwS 3 hts gX4_year_X4_within rfl rfl rfl (by decide +kernel) ⟨Nat.le_of_ble_eq_true rfl, Nat.le_of_ble_eq_true rfl⟩) (hP.sub [] rfl) hK hN rfl rfl hl.1 (Nat.le_of_ble_eq_true rfl) dX4_year_5 ⟨Nat.zero_le _, Nat.zero_le _⟩ ?_
  refine lv_if_eq (tgt := 31) hx hb dX4_year_8 (by decide) (fun c1 => ?_) (fun c1 => ?_)
  · skip
    refine lv_bipush (v := (-2)) hx hb dX4_year_31 (by decide) ?_
    have e9 : fX4_year oc oy od p0 p1 p2 = (((-2) : Int32), od, oy) := by
      simp only [fX4_year, if_pos c1]
    exact W.iret hx hb hr (fun t ht hW => ⟨⟨_, (od, oy), rfl, ⟨by rw [e9], by rw [e9]⟩, ⟨by rw [ht]; exact hP, hD⟩⟩, hS.F ht⟩) hS.2.2 dX4_year_33
  · skip
    refine lv_iload_n hx hb dX4_year_11 rfl (lv_at hl 2 rfl) ?_
    refine lv_iconst (v := 1) hx hb dX4_year_12 (by decide) ?_
    refine lv_bipush (v := 99) hx hb dX4_year_13 (by decide) ?_
    refine rcSi (As := [.int p1, .int 1, .int 99]) (rest := []) hSF (kX4_within l D cI cZ cC p1 1 99) (va_cwS 3 hts gX4_year_X4_within rfl rfl rfl (by decide +kernel) ⟨Nat.le_of_ble_eq_true rfl, Nat.le_of_ble_eq_true rfl⟩) (hP.sub [] rfl) hK hN rfl rfl hl.1 (Nat.le_of_ble_eq_true rfl) dX4_year_15 ⟨Nat.zero_le _, Nat.zero_le _⟩ ?_
    refine lv_if_eq (tgt := 31) hx hb dX4_year_18 (by decide) (fun c2 => ?_) (fun c2 => ?_)
    · skip
      refine lv_bipush (v := (-2)) hx hb dX4_year_31 (by decide) ?_
      have e9 : fX4_year oc oy od p0 p1 p2 = (((-2) : Int32), od, oy) := by
        simp only [fX4_year, if_neg c1, if_pos c2]
      exact W.iret hx hb hr (fun t ht hW => ⟨⟨_, (od, oy), rfl, ⟨by rw [e9], by rw [e9]⟩, ⟨by rw [ht]; exact hP, hD⟩⟩, hS.F ht⟩) hS.2.2 dX4_year_33
    · skip
      refine lv_iload_n hx hb dX4_year_21 rfl (lv_at hl 3 rfl) ?_
      refine lv_iconst (v := 0) hx hb dX4_year_22 (by decide) ?_
      refine lv_bipush (v := 7) hx hb dX4_year_23 (by decide) ?_
      refine rcSi (As := [.int p2, .int 0, .int 7]) (rest := []) hSF (kX4_within l D cI cZ cC p2 0 7) (va_cwS 3 hts gX4_year_X4_within rfl rfl rfl (by decide +kernel) ⟨Nat.le_of_ble_eq_true rfl, Nat.le_of_ble_eq_true rfl⟩) (hP.sub [] rfl) hK hN rfl rfl hl.1 (Nat.le_of_ble_eq_true rfl) dX4_year_25 ⟨Nat.zero_le _, Nat.zero_le _⟩ ?_
      refine lv_if_ne (tgt := 34) hx hb dX4_year_28 (by decide) (fun c3 => ?_) (fun c3 => ?_)
      · skip
        refine lv_aload_n hx hb dX4_year_34 rfl (lv_at hl 0 rfl) ?_
        refine va_get (D := D) (ci := 4) (v := .ref hy) (C := RX4) (T := TX4) (N := 6) hx hb hts hi4 hown hK hP 0 rfl rfl 4 (by decide) hf33 (fun _ h9 => h9) rfl dX4_year_35 ?_
        refine lv_aload_n hx hb dX4_year_38 rfl (lv_at hl 0 rfl) ?_
        refine va_get (D := D) (ci := 4) (v := .ref hc) (C := RX4) (T := TX4) (N := 6) hx hb hts hi4 hown hK hP 0 rfl rfl 0 (by decide) hf10 (fun _ h9 => h9) rfl dX4_year_39 ?_
        refine wcVv (b := hy) (As := [.ref hc]) (rest := []) (wr := [(hq, .inr (4, [.ref hc, .ref hu, .ref hi, .ref hg, .ref hy, .ref hw]))]) (ws' := wX4 hq hc hu hi hg hy hw ++ wX0 cI hc ac oc ++ wX1 cI hd hy ay (fX1_begin oy od oc).2 ++ wX0 cI hd ad (fX1_begin oy od oc).1) hSF (kX1_begin l D cI cZ cC hy ay oy hd ad od hc ac oc) (cwV 1 hts gX4_year_X1_begin rfl rfl rfl (by decide +kernel) ⟨Nat.le_of_ble_eq_true rfl, Nat.le_of_ble_eq_true rfl⟩) (va_recv hK hP (ci := 1) (q0 := 7) rfl rfl) hP hD hS hA hK hN [7, 8, 9, 10, 11, 12, 13, 14, 1, 2, 3, 4, 5, 6] [0] [0, 9, 10, 11, 12, 13, 14, 1, 2, 3, 4, 5, 6, 7, 8] rfl (by decide) rfl (by decide) (by decide) rfl (by decide) rfl rfl hl.1 (Nat.le_of_ble_eq_true rfl) dX4_year_42 ⟨Nat.zero_le _, Nat.zero_le _⟩ (fun H locs hP hD hS => ?_)
        refine lv_iload_n hx hb dX4_year_45 rfl (lv_at hl 1 rfl) ?_
        refine lv_istore (lv' := [(4, .int p0), (0, .ref hq), (1, .int p0), (2, .int p1), (3, .int p2)]) hx hb dX4_year_46 hl (by decide) rfl (fun ls hl => ?_)
        refine lv_iconst (v := 0) hx hb dX4_year_48 (by decide) ?_
        refine lv_istore (lv' := [(5, .int 0), (4, .int p0), (0, .ref hq), (1, .int p0), (2, .int p1), (3, .int p2)]) hx hb dX4_year_49 hl (by decide) rfl (fun ls hl => ?_)
        refine W_lpW ((p1.toNatClampNeg)) (fun k9 H9 locs9 ls9 => va_P D vwCl (wX4 hq hc hu hi hg hy hw ++ wX0 cI hc ac oc ++ wX1 cI hd hy ay (fX4_year_L51 oc oy od p0 ((fX1_begin oy od oc).2) k9).2 ++ wX0 cI hd ad (fX1_begin oy od oc).1) H9 ∧ va_D A (wX4 hq hc hu hi hg hy hw ++ wX0 cI hc ac oc ++ wX1 cI hd hy ay (fX4_year_L51 oc oy od p0 ((fX1_begin oy od oc).2) k9).2 ++ wX0 cI hd ad (fX1_begin oy od oc).1) ∧ va_S A s.heap H9 locs9 ∧ lv_has ls9 6 [(5, .int (nI k9)), (4, .int (fX4_year_L51 oc oy od p0 ((fX1_begin oy od oc).2) k9).1), (0, .ref hq), (1, .int p0), (2, .int p1), (3, .int p2)]) ⟨hP, hD, hS, lv_sub hl [0, 1, 2, 3, 4, 5] rfl⟩ ?_ ?_
        · intro k4 H locs ls hk4 hI9 ih4
          obtain ⟨hP, hD, hS, hl⟩ := hI9
          generalize hs4 : fX4_year_L51 oc oy od p0 ((fX1_begin oy od oc).2) k4 = y4 at hP hD hl
          obtain ⟨x4_4, oy4⟩ := y4
          try dsimp only at hP hD hl
          have hP : va_P D vwCl (wX4 hq hc hu hi hg hy hw ++ wX0 cI hc ac oc ++ wX1 cI hd hy ay oy4 ++ wX0 cI hd ad (fX1_begin oy od oc).1) H := hP
          have hD : va_D A (wX4 hq hc hu hi hg hy hw ++ wX0 cI hc ac oc ++ wX1 cI hd hy ay oy4 ++ wX0 cI hd ad (fX1_begin oy od oc).1) := hD
          have hl : lv_has ls 6 [(5, .int (nI k4)), (4, .int x4_4), (0, .ref hq), (1, .int p0), (2, .int p1), (3, .int p2)] := hl
          refine lv_iload hx hb dX4_year_51 (lv_at hl 0 rfl) ?_
          refine lv_iload_n hx hb dX4_year_53 rfl (lv_at hl 4 rfl) ?_
          refine lv_icmp_ge (tgt := 96) hx hb dX4_year_54 (by decide) (fun c5 => absurd c5 (bnd_nle (wy_eq (by with_reducible assumption)) hk4 (cl_lt _))) (fun c5 => ?_)
          refine lv_bipush (v := 75) hx hb dX4_year_57 (by decide) ?_
          refine lv_iload hx hb dX4_year_59 (lv_at hl 1 rfl) ?_
          refine lv_imul hx hb dX4_year_61 ?_
          refine lv_bipush (v := 74) hx hb dX4_year_62 (by decide) ?_
          refine lv_iadd hx hb dX4_year_64 ?_
          refine lv_ldc (v := 65537) hx hb hown (hts (.constant RX4 190 65537) (by decide +kernel)) dX4_year_65 ?_
          refine lv_irem hx hb dX4_year_67 (by decide) ?_
          refine lv_istore (lv' := [(4, .int (((75 * x4_4) + 74) - ((75 * x4_4) + 74) / 65537 * 65537)), (5, .int (nI k4)), (0, .ref hq), (1, .int p0), (2, .int p1), (3, .int p2)]) hx hb dX4_year_68 hl (by decide) rfl (fun ls hl => ?_)
          refine lv_aload_n hx hb dX4_year_70 rfl (lv_at hl 2 rfl) ?_
          refine va_get (D := D) (ci := 4) (v := .ref hy) (C := RX4) (T := TX4) (N := 6) hx hb hts hi4 hown hK hP 0 rfl rfl 4 (by decide) hf33 (fun _ h9 => h9) rfl dX4_year_71 ?_
          refine lv_iload hx hb dX4_year_74 (lv_at hl 0 rfl) ?_
          refine lv_bipush (v := 10) hx hb dX4_year_76 (by decide) ?_
          refine lv_irem hx hb dX4_year_78 (by decide) ?_
          refine wcVv (b := hy) (As := [.int ((((75 * x4_4) + 74) - ((75 * x4_4) + 74) / 65537 * 65537) - (((75 * x4_4) + 74) - ((75 * x4_4) + 74) / 65537 * 65537) / 10 * 10)]) (rest := []) (wr := [(hq, .inr (4, [.ref hc, .ref hu, .ref hi, .ref hg, .ref hy, .ref hw])), (hc, .inr (0, [.int (oc.1 0), .int (oc.1 1), .int (oc.1 2), .int (oc.1 3), .int (oc.1 4), .int (oc.1 5), .int (oc.1 6), .ref (ac 7), .ref (ac 8), .ref (ac 9), .ref (ac 10), .ref (ac 11)])), (ac 7, .inl (cI, 6, .inl (oc.2 7))), (ac 8, .inl (cI, 6, .inl (oc.2 8))), (ac 9, .inl (cI, 10, .inl (oc.2 9))), (ac 10, .inl (cI, 6, .inl (oc.2 10))), (ac 11, .inl (cI, 6, .inl (oc.2 11)))]) (ws' := wX4 hq hc hu hi hg hy hw ++ wX0 cI hc ac oc ++ wX1 cI hd hy ay (fX1_rain oy4 ((fX1_begin oy od oc).1) ((((75 * x4_4) + 74) - ((75 * x4_4) + 74) / 65537 * 65537) - (((75 * x4_4) + 74) - ((75 * x4_4) + 74) / 65537 * 65537) / 10 * 10)) ++ wX0 cI hd ad (fX1_begin oy od oc).1) hSF (kX1_rain l D cI cZ cC hy ay oy4 hd ad (fX1_begin oy od oc).1 ((((75 * x4_4) + 74) - ((75 * x4_4) + 74) / 65537 * 65537) - (((75 * x4_4) + 74) - ((75 * x4_4) + 74) / 65537 * 65537) / 10 * 10)) (cwV 1 hts gX4_year_X1_rain rfl rfl rfl (by decide +kernel) ⟨Nat.le_of_ble_eq_true rfl, Nat.le_of_ble_eq_true rfl⟩) (va_recv hK hP (ci := 1) (q0 := 7) rfl rfl) hP hD hS hA hK hN [7, 8, 9, 10, 11, 12, 13, 14] [0, 1, 2, 3, 4, 5, 6] [0, 1, 2, 3, 4, 5, 6, 7, 8, 9, 10, 11, 12, 13, 14] rfl (by decide) rfl (by decide) (by decide) rfl (by decide) rfl rfl hl.1 (Nat.le_of_ble_eq_true rfl) dX4_year_79 ⟨Nat.zero_le _, Nat.zero_le _⟩ (fun H locs hP hD hS => ?_)
          refine lv_aload_n hx hb dX4_year_82 rfl (lv_at hl 2 rfl) ?_
          refine va_get (D := D) (ci := 4) (v := .ref hy) (C := RX4) (T := TX4) (N := 6) hx hb hts hi4 hown hK hP 0 rfl rfl 4 (by decide) hf33 (fun _ h9 => h9) rfl dX4_year_83 ?_
          refine lv_iconst (v := 1) hx hb dX4_year_86 (by decide) ?_
          refine wcVv (b := hy) (As := [.int 1]) (rest := []) (wr := [(hq, .inr (4, [.ref hc, .ref hu, .ref hi, .ref hg, .ref hy, .ref hw])), (hc, .inr (0, [.int (oc.1 0), .int (oc.1 1), .int (oc.1 2), .int (oc.1 3), .int (oc.1 4), .int (oc.1 5), .int (oc.1 6), .ref (ac 7), .ref (ac 8), .ref (ac 9), .ref (ac 10), .ref (ac 11)])), (ac 7, .inl (cI, 6, .inl (oc.2 7))), (ac 8, .inl (cI, 6, .inl (oc.2 8))), (ac 9, .inl (cI, 10, .inl (oc.2 9))), (ac 10, .inl (cI, 6, .inl (oc.2 10))), (ac 11, .inl (cI, 6, .inl (oc.2 11)))]) (ws' := wX4 hq hc hu hi hg hy hw ++ wX0 cI hc ac oc ++ wX1 cI hd hy ay (fX1_pass (fX1_rain oy4 ((fX1_begin oy od oc).1) ((((75 * x4_4) + 74) - ((75 * x4_4) + 74) / 65537 * 65537) - (((75 * x4_4) + 74) - ((75 * x4_4) + 74) / 65537 * 65537) / 10 * 10)) ((fX1_begin oy od oc).1) 1) ++ wX0 cI hd ad (fX1_begin oy od oc).1) hSF (kX1_pass l D cI cZ cC hy ay (fX1_rain oy4 ((fX1_begin oy od oc).1) ((((75 * x4_4) + 74) - ((75 * x4_4) + 74) / 65537 * 65537) - (((75 * x4_4) + 74) - ((75 * x4_4) + 74) / 65537 * 65537) / 10 * 10)) hd ad (fX1_begin oy od oc).1 1) (cwV 1 hts gX4_year_X1_pass rfl rfl rfl (by decide +kernel) ⟨Nat.le_of_ble_eq_true rfl, Nat.le_of_ble_eq_true rfl⟩) (va_recv hK hP (ci := 1) (q0 := 7) rfl rfl) hP hD hS hA hK hN [7, 8, 9, 10, 11, 12, 13, 14] [0, 1, 2, 3, 4, 5, 6] [0, 1, 2, 3, 4, 5, 6, 7, 8, 9, 10, 11, 12, 13, 14] rfl (by decide) rfl (by decide) (by decide) rfl (by decide) rfl rfl hl.1 (Nat.le_of_ble_eq_true rfl) dX4_year_87 ⟨Nat.zero_le _, Nat.zero_le _⟩ (fun H locs hP hD hS => ?_)
          refine lv_iinc (v := ((nI k4) + 1)) (lv' := [(5, .int ((nI k4) + 1)), (4, .int (((75 * x4_4) + 74) - ((75 * x4_4) + 74) / 65537 * 65537)), (0, .ref hq), (1, .int p0), (2, .int p1), (3, .int p2)]) hx hb dX4_year_90 hl (k := 1) rfl rfl (by decide) rfl (fun ls hl => ?_)
          refine lv_goto (tgt := 51) hx hb dX4_year_93 (by decide) ?_
          have e8 : fX4_year_L51s oc oy od k4 x4_4 oy4 = ((((75 * x4_4) + 74) - ((75 * x4_4) + 74) / 65537 * 65537), (fX1_pass (fX1_rain oy4 ((fX1_begin oy od oc).1) ((((75 * x4_4) + 74) - ((75 * x4_4) + 74) / 65537 * 65537) - (((75 * x4_4) + 74) - ((75 * x4_4) + 74) / 65537 * 65537) / 10 * 10)) ((fX1_begin oy od oc).1) 1)) := by
            rfl
          have e7 : fX4_year_L51 oc oy od p0 ((fX1_begin oy od oc).2) (k4 + 1) = ((((75 * x4_4) + 74) - ((75 * x4_4) + 74) / 65537 * 65537), (fX1_pass (fX1_rain oy4 ((fX1_begin oy od oc).1) ((((75 * x4_4) + 74) - ((75 * x4_4) + 74) / 65537 * 65537) - (((75 * x4_4) + 74) - ((75 * x4_4) + 74) / 65537 * 65537) / 10 * 10)) ((fX1_begin oy od oc).1) 1)) := by
            show fX4_year_L51s oc oy od k4 (fX4_year_L51 oc oy od p0 ((fX1_begin oy od oc).2) k4).1 (fX4_year_L51 oc oy od p0 ((fX1_begin oy od oc).2) k4).2 = _
            rw [hs4]; exact e8
          have hl9 : lv_has ls 6 [(5, .int (nI (k4 + 1))), (4, .int (fX4_year_L51 oc oy od p0 ((fX1_begin oy od oc).2) (k4 + 1)).1), (0, .ref hq), (1, .int p0), (2, .int p1), (3, .int p2)] := by
            rw [nI_succ, e7]; exact lv_sub hl [0, 1, 2, 3, 4, 5] rfl
          exact ih4 H locs ls ⟨by rw [e7]; exact hP, by rw [e7]; exact hD, hS, hl9⟩
        intro H locs ls hI9
        obtain ⟨hP, hD, hS, hl⟩ := hI9
        refine lv_iload hx hb dX4_year_51 (lv_at hl 0 rfl) ?_
        refine lv_iload_n hx hb dX4_year_53 rfl (lv_at hl 4 rfl) ?_
        refine lv_icmp_ge (tgt := 96) hx hb dX4_year_54 (by decide) (fun c6 => ?_) (fun c6 => absurd (bnd_le (wy_eq (by with_reducible assumption))) c6)
        refine lv_iload_n hx hb dX4_year_96 rfl (lv_at hl 5 rfl) ?_
        refine lv_bipush (v := 7) hx hb dX4_year_97 (by decide) ?_
        refine lv_icmp_ne (tgt := 110) hx hb dX4_year_99 (by decide) (fun c7 => ?_) (fun c7 => ?_)
        · skip
          refine lv_aload_n hx hb dX4_year_110 rfl (lv_at hl 2 rfl) ?_
          refine va_get (D := D) (ci := 4) (v := .ref hy) (C := RX4) (T := TX4) (N := 6) hx hb hts hi4 hown hK hP 0 rfl rfl 4 (by decide) hf33 (fun _ h9 => h9) rfl dX4_year_111 ?_
          refine lv_iload_n hx hb dX4_year_114 rfl (lv_at hl 5 rfl) ?_
          refine lv_bipush (v := 6) hx hb dX4_year_115 (by decide) ?_
          refine W_itei (P := p2 = 6) (a := 8) (b := p2) (J := 126) (ls9 := ls) (rest9 := [.ref hy]) (fun ja9 jb9 => ?_) ?_
          · refine lv_icmp_ne (tgt := 125) hx hb dX4_year_117 (by decide) (fun c8 => ?_) (fun c8 => ?_)
            · skip
              refine lv_iload_n hx hb dX4_year_125 rfl (lv_at hl 5 rfl) ?_
              exact jb9 c8
            · skip
              refine lv_bipush (v := 8) hx hb dX4_year_120 (by decide) ?_
              refine lv_goto (tgt := 126) hx hb dX4_year_122 (by decide) ?_
              exact ja9 c8
          refine rcVi (b := hy) (As := [.int (if p2 = 6 then (8 : Int32) else p2)]) (rest := []) hSF (kX1_yearsOf l D cI cZ cC hy ay (fX4_year_L51 oc oy od p0 ((fX1_begin oy od oc).2) ((p1.toNatClampNeg))).2 hd (if p2 = 6 then (8 : Int32) else p2)) (cwV 1 hts gX4_year_X1_yearsOf rfl rfl rfl (by decide +kernel) ⟨Nat.le_of_ble_eq_true rfl, Nat.le_of_ble_eq_true rfl⟩) (va_recv hK hP (ci := 1) (q0 := 7) rfl rfl) (hP.sub [7, 8] rfl) hK hN rfl rfl hl.1 (Nat.le_of_ble_eq_true rfl) dX4_year_126 ⟨Nat.zero_le _, Nat.zero_le _⟩ ?_
          have e9 : fX4_year oc oy od p0 p1 p2 = ((fX1_yearsOf ((fX4_year_L51 oc oy od p0 ((fX1_begin oy od oc).2) ((p1.toNatClampNeg))).2) (if p2 = 6 then (8 : Int32) else p2)), (fX1_begin oy od oc).1, (fX4_year_L51 oc oy od p0 ((fX1_begin oy od oc).2) ((p1.toNatClampNeg))).2) := by
            simp only [fX4_year, if_neg c1, if_neg c2, if_neg c3, if_neg c7]
          exact W.iret hx hb hr (fun t ht hW => ⟨⟨_, ((fX1_begin oy od oc).1, (fX4_year_L51 oc oy od p0 ((fX1_begin oy od oc).2) ((p1.toNatClampNeg))).2), rfl, ⟨by rw [e9], by rw [e9]⟩, ⟨by rw [ht]; exact hP, hD⟩⟩, hS.F ht⟩) hS.2.2 dX4_year_129
        · skip
          refine lv_aload_n hx hb dX4_year_102 rfl (lv_at hl 2 rfl) ?_
          refine va_get (D := D) (ci := 4) (v := .ref hy) (C := RX4) (T := TX4) (N := 6) hx hb hts hi4 hown hK hP 0 rfl rfl 4 (by decide) hf33 (fun _ h9 => h9) rfl dX4_year_103 ?_
          refine va_get (D := D) (ci := 1) (v := .int ((fX4_year_L51 oc oy od p0 ((fX1_begin oy od oc).2) ((p1.toNatClampNeg))).2.1 3)) (C := RX1) (T := TX1) (N := 4) hx hb hts hi1 hown hK hP 7 rfl rfl 3 (by decide) hf122 (fun _ h9 => h9) rfl dX4_year_106 ?_
          have e9 : fX4_year oc oy od p0 p1 p2 = (((fX4_year_L51 oc oy od p0 ((fX1_begin oy od oc).2) ((p1.toNatClampNeg))).2.1 3), (fX1_begin oy od oc).1, (fX4_year_L51 oc oy od p0 ((fX1_begin oy od oc).2) ((p1.toNatClampNeg))).2) := by
            simp only [fX4_year, if_neg c1, if_neg c2, if_neg c3, if_pos c7]
          exact W.iret hx hb hr (fun t ht hW => ⟨⟨_, ((fX1_begin oy od oc).1, (fX4_year_L51 oc oy od p0 ((fX1_begin oy od oc).2) ((p1.toNatClampNeg))).2), rfl, ⟨by rw [e9], by rw [e9]⟩, ⟨by rw [ht]; exact hP, hD⟩⟩, hS.F ht⟩) hS.2.2 dX4_year_109
      · skip
        refine lv_bipush (v := (-2)) hx hb dX4_year_31 (by decide) ?_
        have e9 : fX4_year oc oy od p0 p1 p2 = (((-2) : Int32), od, oy) := by
          simp only [fX4_year, if_neg c1, if_neg c2, if_pos c3]
        exact W.iret hx hb hr (fun t ht hW => ⟨⟨_, (od, oy), rfl, ⟨by rw [e9], by rw [e9]⟩, ⟨by rw [ht]; exact hP, hD⟩⟩, hS.F ht⟩) hS.2.2 dX4_year_33

set_option maxHeartbeats 4000000 in
set_option maxRecDepth 100000 in
theorem kX4_toldOfPerson (l : Launch) (D : va_G) (cI cZ cC : ClassId) (hq hu hi hg hy hw : Nat) (hc : Nat) (ac : Nat → Nat) (oc : OV) (p0 : Int32) (p1 : Int32)  : Met l yX4_toldOfPerson wsX4_toldOfPerson ({ frames := 2, cells := 0, slots := 0, locals := 43 }) (pR D (tyv cI cZ cC) (wX4 hq hc hu hi hg hy hw ++ wX0 cI hc ac oc) [.ref hq, .int p0, .int p1]) (vp_Si (fun r => r = fX4_toldOfPerson oc p0 p1)) 0 0 (fun _ => False) := by
  refine Met.ofW (cc := cX4_toldOfPerson) (maxL := 3) (ret := (some .int)) (by decide) rfl ?_
  intro p e s m args below meth c s₁ B hml hv
  obtain ⟨rfl, hP, hK, hN⟩ := hv
  have hx := B.exec
  have hb := B.bytes
  have hr := B.returns
  have hts := atoms_spec (ws := wsX4_toldOfPerson) B.pre
  have hown : s.vm.findClass RX4 = some m.cls := findClass_of_methodNamed B.named
  have hlocks := B.notSynchronized
  have hP : va_P D vwCl (wX4 hq hc hu hi hg hy hw ++ wX0 cI hc ac oc) s.heap := hP
  have hl := lv_entry ([.ref hq, .int p0, .int p1]) (n := 3) (Nat.le_of_ble_eq_true rfl)
  rw [lg_entry_eq]
  generalize (lg_sl ([.ref hq, .int p0, .int p1]) ++ List.replicate (3 - (lg_sl ([.ref hq, .int p0, .int p1])).length) Slot.unset).toArray = ls at hl ⊢
  have hl : lv_has ls 3 [(0, .ref hq), (1, .int p0), (2, .int p1)] := hl
  have hSF : CallFix p m c cX4_toldOfPerson 3 s _ wsX4_toldOfPerson RX4 := ⟨hx, hb, hml, hown, hts⟩
  have hi4 : ∀ w ∈ wsX40, w ∈ wsX4_toldOfPerson := by decide +kernel
  have hf10 : (Cond.fieldLink RX4 10 "UmbrellaVote" "city" "LUmbrellaVote$City;").before _ s = true := hts _ (by decide +kernel)
  have hi0 : ∀ w ∈ wsX00, w ∈ wsX4_toldOfPerson := by decide +kernel
  have hf169 : (Cond.fieldLink RX4 169 "UmbrellaVote$City" "places" "[I").before _ s = true := hts _ (by decide +kernel)
  have hf152 : (Cond.fieldLink RX4 152 "UmbrellaVote$City" "slows" "[I").before _ s = true := hts _ (by decide +kernel)
  have hf64 : (Cond.fieldLink RX4 64 "UmbrellaVote$City" "cotton" "I").before _ s = true := hts _ (by decide +kernel)
  have hf67 : (Cond.fieldLink RX4 67 "UmbrellaVote$City" "holes" "I").before _ s = true := hts _ (by decide +kernel)
  refine lv_aload_n hx hb dX4_toldOfPerson_0 rfl (lv_at hl 0 rfl) ?_
  refine va_get (D := D) (ci := 4) (v := .ref hc) (C := RX4) (T := TX4) (N := 6) hx hb hts hi4 hown hK hP 0 rfl rfl 0 (by decide) hf10 (fun _ h9 => h9) rfl dX4_toldOfPerson_1 ?_
  refine lv_iload_n hx hb dX4_toldOfPerson_4 rfl (lv_at hl 1 rfl) ?_
  refine rcVi (b := hc) (As := [.int p0]) (rest := []) hSF (kX0_isThere l D cI cZ cC hc ac oc p0) (cwV 1 hts gX4_toldOfPerson_X0_isThere rfl rfl rfl (by decide +kernel) ⟨Nat.le_of_ble_eq_true rfl, Nat.le_of_ble_eq_true rfl⟩) (va_recv hK hP (ci := 0) (q0 := 1) rfl rfl) (hP.sub [1, 2, 3, 4, 5, 6] rfl) hK hN rfl rfl hl.1 (Nat.le_of_ble_eq_true rfl) dX4_toldOfPerson_5 ⟨Nat.zero_le _, Nat.zero_le _⟩ ?_
  refine lv_if_ne (tgt := 14) hx hb dX4_toldOfPerson_8 (by decide) (fun c1 => ?_) (fun c1 => ?_)
  · skip
    refine lv_iload_n hx hb dX4_toldOfPerson_14 rfl (lv_at hl 2 rfl) ?_
    by_cases q2_0 : p1 = 0
    · refine lv_tableIn (off := 29) (tgt := 44) hx hb dX4_toldOfPerson_15 (by rw [q2_0]; decide) (by rw [q2_0]; decide) (by rw [q2_0]; rfl) (by decide) ?_
      refine lv_aload_n hx hb dX4_toldOfPerson_44 rfl (lv_at hl 0 rfl) ?_
      refine va_get (D := D) (ci := 4) (v := .ref hc) (C := RX4) (T := TX4) (N := 6) hx hb hts hi4 hown hK hP 0 rfl rfl 0 (by decide) hf10 (fun _ h9 => h9) rfl dX4_toldOfPerson_45 ?_
      refine va_get (D := D) (ci := 0) (v := .ref (ac 7)) (C := RX0) (T := TX0) (N := 12) hx hb hts hi0 hown hK hP 1 rfl rfl 7 (by decide) hf169 (fun _ h9 => h9) rfl dX4_toldOfPerson_48 ?_
      refine lv_iload_n hx hb dX4_toldOfPerson_51 rfl (lv_at hl 1 rfl) ?_
      refine va_iald (f := (oc.2 7)) hx hb hK hP 2 0 rfl rfl (it6 (by with_reducible assumption)) dX4_toldOfPerson_52 ?_
      have e9 : fX4_toldOfPerson oc p0 p1 = ((oc.2 7) p0.toNatClampNeg) := by
        simp only [fX4_toldOfPerson, if_neg c1, if_pos q2_0]
      exact W.iret hx hb hr (fun t ht hW => ⟨_, rfl, e9.symm, ht⟩) (fun _ h9 => absurd h9 List.not_mem_nil) dX4_toldOfPerson_53
    by_cases q2_1 : p1 = 1
    · refine lv_tableIn (off := 39) (tgt := 54) hx hb dX4_toldOfPerson_15 (by rw [q2_1]; decide) (by rw [q2_1]; decide) (by rw [q2_1]; rfl) (by decide) ?_
      refine lv_aload_n hx hb dX4_toldOfPerson_54 rfl (lv_at hl 0 rfl) ?_
      refine va_get (D := D) (ci := 4) (v := .ref hc) (C := RX4) (T := TX4) (N := 6) hx hb hts hi4 hown hK hP 0 rfl rfl 0 (by decide) hf10 (fun _ h9 => h9) rfl dX4_toldOfPerson_55 ?_
      refine va_get (D := D) (ci := 0) (v := .ref (ac 8)) (C := RX0) (T := TX0) (N := 12) hx hb hts hi0 hown hK hP 1 rfl rfl 8 (by decide) hf152 (fun _ h9 => h9) rfl dX4_toldOfPerson_58 ?_
      refine lv_iload_n hx hb dX4_toldOfPerson_61 rfl (lv_at hl 1 rfl) ?_
      refine va_iald (f := (oc.2 8)) hx hb hK hP 3 0 rfl rfl (it6 (by with_reducible assumption)) dX4_toldOfPerson_62 ?_
      have e9 : fX4_toldOfPerson oc p0 p1 = ((oc.2 8) p0.toNatClampNeg) := by
        simp only [fX4_toldOfPerson, if_neg c1, if_neg q2_0, if_pos q2_1]
      exact W.iret hx hb hr (fun t ht hW => ⟨_, rfl, e9.symm, ht⟩) (fun _ h9 => absurd h9 List.not_mem_nil) dX4_toldOfPerson_63
    by_cases q2_2 : p1 = 2
    · refine lv_tableIn (off := 49) (tgt := 64) hx hb dX4_toldOfPerson_15 (by rw [q2_2]; decide) (by rw [q2_2]; decide) (by rw [q2_2]; rfl) (by decide) ?_
      refine lv_aload_n hx hb dX4_toldOfPerson_64 rfl (lv_at hl 0 rfl) ?_
      refine va_get (D := D) (ci := 4) (v := .ref hc) (C := RX4) (T := TX4) (N := 6) hx hb hts hi4 hown hK hP 0 rfl rfl 0 (by decide) hf10 (fun _ h9 => h9) rfl dX4_toldOfPerson_65 ?_
      refine va_get (D := D) (ci := 0) (v := .int (oc.1 4)) (C := RX0) (T := TX0) (N := 12) hx hb hts hi0 hown hK hP 1 rfl rfl 4 (by decide) hf64 (fun _ h9 => h9) rfl dX4_toldOfPerson_68 ?_
      refine lv_iload_n hx hb dX4_toldOfPerson_71 rfl (lv_at hl 1 rfl) ?_
      refine rcSi (As := [.int (oc.1 4), .int p0]) (rest := []) hSF (kX4_hasBit l D cI cZ cC (oc.1 4) p0) (va_cwS 2 hts gX4_toldOfPerson_X4_hasBit rfl rfl rfl (by decide +kernel) ⟨Nat.le_of_ble_eq_true rfl, Nat.le_of_ble_eq_true rfl⟩) (hP.sub [] rfl) hK hN rfl rfl hl.1 (Nat.le_of_ble_eq_true rfl) dX4_toldOfPerson_72 ⟨Nat.zero_le _, Nat.zero_le _⟩ ?_
      refine W_itei (P := (fX4_hasBit (oc.1 4) p0) = 0) (a := 0) (b := 1) (J := 83) (ls9 := ls) (rest9 := []) (fun ja4 jb4 => ?_) ?_
      · refine lv_if_eq (tgt := 82) hx hb dX4_toldOfPerson_75 (by decide) (fun c3 => ?_) (fun c3 => ?_)
        · skip
          refine lv_iconst (v := 0) hx hb dX4_toldOfPerson_82 (by decide) ?_
          exact ja4 c3
        · skip
          refine lv_iconst (v := 1) hx hb dX4_toldOfPerson_78 (by decide) ?_
          refine lv_goto (tgt := 83) hx hb dX4_toldOfPerson_79 (by decide) ?_
          exact jb4 c3
      have e9 : fX4_toldOfPerson oc p0 p1 = (if (fX4_hasBit (oc.1 4) p0) = 0 then (0 : Int32) else 1) := by
        simp only [fX4_toldOfPerson, if_neg c1, if_neg q2_0, if_neg q2_1, if_pos q2_2]
      exact W.iret hx hb hr (fun t ht hW => ⟨_, rfl, e9.symm, ht⟩) (fun _ h9 => absurd h9 List.not_mem_nil) dX4_toldOfPerson_83
    by_cases q2_3 : p1 = 3
    · refine lv_tableIn (off := 69) (tgt := 84) hx hb dX4_toldOfPerson_15 (by rw [q2_3]; decide) (by rw [q2_3]; decide) (by rw [q2_3]; rfl) (by decide) ?_
      refine lv_aload_n hx hb dX4_toldOfPerson_84 rfl (lv_at hl 0 rfl) ?_
      refine va_get (D := D) (ci := 4) (v := .ref hc) (C := RX4) (T := TX4) (N := 6) hx hb hts hi4 hown hK hP 0 rfl rfl 0 (by decide) hf10 (fun _ h9 => h9) rfl dX4_toldOfPerson_85 ?_
      refine va_get (D := D) (ci := 0) (v := .int (oc.1 3)) (C := RX0) (T := TX0) (N := 12) hx hb hts hi0 hown hK hP 1 rfl rfl 3 (by decide) hf67 (fun _ h9 => h9) rfl dX4_toldOfPerson_88 ?_
      refine lv_iload_n hx hb dX4_toldOfPerson_91 rfl (lv_at hl 1 rfl) ?_
      refine rcSi (As := [.int (oc.1 3), .int p0]) (rest := []) hSF (kX4_hasBit l D cI cZ cC (oc.1 3) p0) (va_cwS 2 hts gX4_toldOfPerson_X4_hasBit rfl rfl rfl (by decide +kernel) ⟨Nat.le_of_ble_eq_true rfl, Nat.le_of_ble_eq_true rfl⟩) (hP.sub [] rfl) hK hN rfl rfl hl.1 (Nat.le_of_ble_eq_true rfl) dX4_toldOfPerson_92 ⟨Nat.zero_le _, Nat.zero_le _⟩ ?_
      refine W_itei (P := (fX4_hasBit (oc.1 3) p0) = 0) (a := 0) (b := 1) (J := 103) (ls9 := ls) (rest9 := []) (fun ja6 jb6 => ?_) ?_
      · refine lv_if_eq (tgt := 102) hx hb dX4_toldOfPerson_95 (by decide) (fun c5 => ?_) (fun c5 => ?_)
        · skip
          refine lv_iconst (v := 0) hx hb dX4_toldOfPerson_102 (by decide) ?_
          exact ja6 c5
        · skip
          refine lv_iconst (v := 1) hx hb dX4_toldOfPerson_98 (by decide) ?_
          refine lv_goto (tgt := 103) hx hb dX4_toldOfPerson_99 (by decide) ?_
          exact jb6 c5
      have e9 : fX4_toldOfPerson oc p0 p1 = (if (fX4_hasBit (oc.1 3) p0) = 0 then (0 : Int32) else 1) := by
        simp only [fX4_toldOfPerson, if_neg c1, if_neg q2_0, if_neg q2_1, if_neg q2_2, if_pos q2_3]
      exact W.iret hx hb hr (fun t ht hW => ⟨_, rfl, e9.symm, ht⟩) (fun _ h9 => absurd h9 List.not_mem_nil) dX4_toldOfPerson_103
    have nq2_0 : ¬ (p1).toInt = 0 := fun z9 => q2_0 (Int32.toInt_inj.mp (z9.trans (by decide)))
    have nq2_1 : ¬ (p1).toInt = 1 := fun z9 => q2_1 (Int32.toInt_inj.mp (z9.trans (by decide)))
    have nq2_2 : ¬ (p1).toInt = 2 := fun z9 => q2_2 (Int32.toInt_inj.mp (z9.trans (by decide)))
    have nq2_3 : ¬ (p1).toInt = 3 := fun z9 => q2_3 (Int32.toInt_inj.mp (z9.trans (by decide)))
    refine lv_tableOut (tgt := 104) hx hb dX4_toldOfPerson_15 (by omega) (by decide) ?_
    refine lv_bipush (v := (-2)) hx hb dX4_toldOfPerson_104 (by decide) ?_
    have e9 : fX4_toldOfPerson oc p0 p1 = (-2) := by
      simp only [fX4_toldOfPerson, if_neg c1, if_neg q2_0, if_neg q2_1, if_neg q2_2, if_neg q2_3]
    exact W.iret hx hb hr (fun t ht hW => ⟨_, rfl, e9.symm, ht⟩) (fun _ h9 => absurd h9 List.not_mem_nil) dX4_toldOfPerson_106
  · skip
    refine lv_bipush (v := (-2)) hx hb dX4_toldOfPerson_11 (by decide) ?_
    have e9 : fX4_toldOfPerson oc p0 p1 = (-2) := by
      simp only [fX4_toldOfPerson, if_pos c1]
    exact W.iret hx hb hr (fun t ht hW => ⟨_, rfl, e9.symm, ht⟩) (fun _ h9 => absurd h9 List.not_mem_nil) dX4_toldOfPerson_13

set_option maxHeartbeats 4000000 in
set_option maxRecDepth 100000 in
theorem kX4_told (l : Launch) (D : va_G) (cI cZ cC : ClassId) (hq hu hi hy hw : Nat) (hc : Nat) (ac : Nat → Nat) (oc : OV) (hg : Nat) (ag : Nat → Nat) (og : OV) (p0 : Int32)  : Met l yX4_told wsX4_told ({ frames := 3, cells := 0, slots := 0, locals := 65 }) (pR D (tyv cI cZ cC) (wX4 hq hc hu hi hg hy hw ++ wX0 cI hc ac oc ++ wX2 cI hg ag og) [.ref hq, .int p0]) (vp_Si (fun r => r = fX4_told oc og p0)) 0 0 (fun _ => False) := by
  refine Met.ofW (cc := cX4_told) (maxL := 2) (ret := (some .int)) (by decide) rfl ?_
  intro p e s m args below meth c s₁ B hml hv
  obtain ⟨rfl, hP, hK, hN⟩ := hv
  have hx := B.exec
  have hb := B.bytes
  have hr := B.returns
  have hts := atoms_spec (ws := wsX4_told) B.pre
  have hown : s.vm.findClass RX4 = some m.cls := findClass_of_methodNamed B.named
  have hlocks := B.notSynchronized
  have hP : va_P D vwCl (wX4 hq hc hu hi hg hy hw ++ wX0 cI hc ac oc ++ wX2 cI hg ag og) s.heap := hP
  have hl := lv_entry ([.ref hq, .int p0]) (n := 2) (Nat.le_of_ble_eq_true rfl)
  rw [lg_entry_eq]
  generalize (lg_sl ([.ref hq, .int p0]) ++ List.replicate (2 - (lg_sl ([.ref hq, .int p0])).length) Slot.unset).toArray = ls at hl ⊢
  have hl : lv_has ls 2 [(0, .ref hq), (1, .int p0)] := hl
  have hSF : CallFix p m c cX4_told 2 s _ wsX4_told RX4 := ⟨hx, hb, hml, hown, hts⟩
  have hi4 : ∀ w ∈ wsX40, w ∈ wsX4_told := by decide +kernel
  have hf26 : (Cond.fieldLink RX4 26 "UmbrellaVote" "pad" "LUmbrellaVote$Pad;").before _ s = true := hts _ (by decide +kernel)
  have hi2 : ∀ w ∈ wsX20, w ∈ wsX4_told := by decide +kernel
  have hf91 : (Cond.fieldLink RX4 91 "UmbrellaVote$Pad" "count" "I").before _ s = true := hts _ (by decide +kernel)
  have hf10 : (Cond.fieldLink RX4 10 "UmbrellaVote" "city" "LUmbrellaVote$City;").before _ s = true := hts _ (by decide +kernel)
  have hi0 : ∀ w ∈ wsX00, w ∈ wsX4_told := by decide +kernel
  have hf56 : (Cond.fieldLink RX4 56 "UmbrellaVote$City" "there" "I").before _ s = true := hts _ (by decide +kernel)
  have hf82 : (Cond.fieldLink RX4 82 "UmbrellaVote$City" "spread" "I").before _ s = true := hts _ (by decide +kernel)
  have hf85 : (Cond.fieldLink RX4 85 "UmbrellaVote$City" "shade" "I").before _ s = true := hts _ (by decide +kernel)
  have hf79 : (Cond.fieldLink RX4 79 "UmbrellaVote$City" "tables" "I").before _ s = true := hts _ (by decide +kernel)
  have hf181 : (Cond.fieldLink RX4 181 "UmbrellaVote$City" "sights" "I").before _ s = true := hts _ (by decide +kernel)
  have hf128 : (Cond.fieldLink RX4 128 "UmbrellaVote$City" "weights" "[I").before _ s = true := hts _ (by decide +kernel)
  refine lv_iload_n hx hb dX4_told_0 rfl (lv_at hl 1 rfl) ?_
  by_cases q1_0 : p0 = 0
  · refine lv_tableIn (off := 39) (tgt := 40) hx hb dX4_told_1 (by rw [q1_0]; decide) (by rw [q1_0]; decide) (by rw [q1_0]; rfl) (by decide) ?_
    refine lv_aload_n hx hb dX4_told_40 rfl (lv_at hl 0 rfl) ?_
    refine va_get (D := D) (ci := 4) (v := .ref hg) (C := RX4) (T := TX4) (N := 6) hx hb hts hi4 hown hK hP 0 rfl rfl 3 (by decide) hf26 (fun _ h9 => h9) rfl dX4_told_41 ?_
    refine va_get (D := D) (ci := 2) (v := .int (og.1 1)) (C := RX2) (T := TX2) (N := 2) hx hb hts hi2 hown hK hP 7 rfl rfl 1 (by decide) hf91 (fun _ h9 => h9) rfl dX4_told_44 ?_
    have e9 : fX4_told oc og p0 = (og.1 1) := by
      simp only [fX4_told, if_pos q1_0]
    exact W.iret hx hb hr (fun t ht hW => ⟨_, rfl, e9.symm, ht⟩) (fun _ h9 => absurd h9 List.not_mem_nil) dX4_told_47
  by_cases q1_1 : p0 = 1
  · refine lv_tableIn (off := 47) (tgt := 48) hx hb dX4_told_1 (by rw [q1_1]; decide) (by rw [q1_1]; decide) (by rw [q1_1]; rfl) (by decide) ?_
    refine lv_aload_n hx hb dX4_told_48 rfl (lv_at hl 0 rfl) ?_
    refine va_get (D := D) (ci := 4) (v := .ref hc) (C := RX4) (T := TX4) (N := 6) hx hb hts hi4 hown hK hP 0 rfl rfl 0 (by decide) hf10 (fun _ h9 => h9) rfl dX4_told_49 ?_
    refine va_get (D := D) (ci := 0) (v := .int (oc.1 2)) (C := RX0) (T := TX0) (N := 12) hx hb hts hi0 hown hK hP 1 rfl rfl 2 (by decide) hf56 (fun _ h9 => h9) rfl dX4_told_52 ?_
    have e9 : fX4_told oc og p0 = (oc.1 2) := by
      simp only [fX4_told, if_neg q1_0, if_pos q1_1]
    exact W.iret hx hb hr (fun t ht hW => ⟨_, rfl, e9.symm, ht⟩) (fun _ h9 => absurd h9 List.not_mem_nil) dX4_told_55
  by_cases q1_2 : p0 = 2
  · refine lv_tableIn (off := 55) (tgt := 56) hx hb dX4_told_1 (by rw [q1_2]; decide) (by rw [q1_2]; decide) (by rw [q1_2]; rfl) (by decide) ?_
    refine lv_aload_n hx hb dX4_told_56 rfl (lv_at hl 0 rfl) ?_
    refine va_get (D := D) (ci := 4) (v := .ref hc) (C := RX4) (T := TX4) (N := 6) hx hb hts hi4 hown hK hP 0 rfl rfl 0 (by decide) hf10 (fun _ h9 => h9) rfl dX4_told_57 ?_
    refine va_get (D := D) (ci := 0) (v := .int (oc.1 0)) (C := RX0) (T := TX0) (N := 12) hx hb hts hi0 hown hK hP 1 rfl rfl 0 (by decide) hf82 (fun _ h9 => h9) rfl dX4_told_60 ?_
    have e9 : fX4_told oc og p0 = (oc.1 0) := by
      simp only [fX4_told, if_neg q1_0, if_neg q1_1, if_pos q1_2]
    exact W.iret hx hb hr (fun t ht hW => ⟨_, rfl, e9.symm, ht⟩) (fun _ h9 => absurd h9 List.not_mem_nil) dX4_told_63
  by_cases q1_3 : p0 = 3
  · refine lv_tableIn (off := 63) (tgt := 64) hx hb dX4_told_1 (by rw [q1_3]; decide) (by rw [q1_3]; decide) (by rw [q1_3]; rfl) (by decide) ?_
    refine lv_aload_n hx hb dX4_told_64 rfl (lv_at hl 0 rfl) ?_
    refine va_get (D := D) (ci := 4) (v := .ref hc) (C := RX4) (T := TX4) (N := 6) hx hb hts hi4 hown hK hP 0 rfl rfl 0 (by decide) hf10 (fun _ h9 => h9) rfl dX4_told_65 ?_
    refine va_get (D := D) (ci := 0) (v := .int (oc.1 1)) (C := RX0) (T := TX0) (N := 12) hx hb hts hi0 hown hK hP 1 rfl rfl 1 (by decide) hf85 (fun _ h9 => h9) rfl dX4_told_68 ?_
    have e9 : fX4_told oc og p0 = (oc.1 1) := by
      simp only [fX4_told, if_neg q1_0, if_neg q1_1, if_neg q1_2, if_pos q1_3]
    exact W.iret hx hb hr (fun t ht hW => ⟨_, rfl, e9.symm, ht⟩) (fun _ h9 => absurd h9 List.not_mem_nil) dX4_told_71
  by_cases q1_4 : p0 = 4
  · refine lv_tableIn (off := 71) (tgt := 72) hx hb dX4_told_1 (by rw [q1_4]; decide) (by rw [q1_4]; decide) (by rw [q1_4]; rfl) (by decide) ?_
    refine lv_aload_n hx hb dX4_told_72 rfl (lv_at hl 0 rfl) ?_
    refine va_get (D := D) (ci := 4) (v := .ref hc) (C := RX4) (T := TX4) (N := 6) hx hb hts hi4 hown hK hP 0 rfl rfl 0 (by decide) hf10 (fun _ h9 => h9) rfl dX4_told_73 ?_
    refine va_get (D := D) (ci := 0) (v := .int (oc.1 5)) (C := RX0) (T := TX0) (N := 12) hx hb hts hi0 hown hK hP 1 rfl rfl 5 (by decide) hf79 (fun _ h9 => h9) rfl dX4_told_76 ?_
    have e9 : fX4_told oc og p0 = (oc.1 5) := by
      simp only [fX4_told, if_neg q1_0, if_neg q1_1, if_neg q1_2, if_neg q1_3, if_pos q1_4]
    exact W.iret hx hb hr (fun t ht hW => ⟨_, rfl, e9.symm, ht⟩) (fun _ h9 => absurd h9 List.not_mem_nil) dX4_told_79
  by_cases q1_5 : p0 = 5
  · refine lv_tableIn (off := 79) (tgt := 80) hx hb dX4_told_1 (by rw [q1_5]; decide) (by rw [q1_5]; decide) (by rw [q1_5]; rfl) (by decide) ?_
    refine lv_aload_n hx hb dX4_told_80 rfl (lv_at hl 0 rfl) ?_
    refine va_get (D := D) (ci := 4) (v := .ref hc) (C := RX4) (T := TX4) (N := 6) hx hb hts hi4 hown hK hP 0 rfl rfl 0 (by decide) hf10 (fun _ h9 => h9) rfl dX4_told_81 ?_
    refine va_get (D := D) (ci := 0) (v := .int (oc.1 6)) (C := RX0) (T := TX0) (N := 12) hx hb hts hi0 hown hK hP 1 rfl rfl 6 (by decide) hf181 (fun _ h9 => h9) rfl dX4_told_84 ?_
    have e9 : fX4_told oc og p0 = (oc.1 6) := by
      simp only [fX4_told, if_neg q1_0, if_neg q1_1, if_neg q1_2, if_neg q1_3, if_neg q1_4, if_pos q1_5]
    exact W.iret hx hb hr (fun t ht hW => ⟨_, rfl, e9.symm, ht⟩) (fun _ h9 => absurd h9 List.not_mem_nil) dX4_told_87
  have nq1_0 : ¬ (p0).toInt = 0 := fun z9 => q1_0 (Int32.toInt_inj.mp (z9.trans (by decide)))
  have nq1_1 : ¬ (p0).toInt = 1 := fun z9 => q1_1 (Int32.toInt_inj.mp (z9.trans (by decide)))
  have nq1_2 : ¬ (p0).toInt = 2 := fun z9 => q1_2 (Int32.toInt_inj.mp (z9.trans (by decide)))
  have nq1_3 : ¬ (p0).toInt = 3 := fun z9 => q1_3 (Int32.toInt_inj.mp (z9.trans (by decide)))
  have nq1_4 : ¬ (p0).toInt = 4 := fun z9 => q1_4 (Int32.toInt_inj.mp (z9.trans (by decide)))
  have nq1_5 : ¬ (p0).toInt = 5 := fun z9 => q1_5 (Int32.toInt_inj.mp (z9.trans (by decide)))
  refine lv_tableOut (tgt := 88) hx hb dX4_told_1 (by omega) (by decide) ?_
  refine lv_iload_n hx hb dX4_told_88 rfl (lv_at hl 1 rfl) ?_
  refine lv_bipush (v := 10) hx hb dX4_told_89 (by decide) ?_
  refine lv_bipush (v := 19) hx hb dX4_told_91 (by decide) ?_
  refine rcSi (As := [.int p0, .int 10, .int 19]) (rest := []) hSF (kX4_within l D cI cZ cC p0 10 19) (va_cwS 3 hts gX4_told_X4_within rfl rfl rfl (by decide +kernel) ⟨Nat.le_of_ble_eq_true rfl, Nat.le_of_ble_eq_true rfl⟩) (hP.sub [] rfl) hK hN rfl rfl hl.1 (Nat.le_of_ble_eq_true rfl) dX4_told_93 ⟨Nat.zero_le _, Nat.zero_le _⟩ ?_
  refine lv_if_eq (tgt := 112) hx hb dX4_told_96 (by decide) (fun c2 => ?_) (fun c2 => ?_)
  · skip
    refine lv_iload_n hx hb dX4_told_112 rfl (lv_at hl 1 rfl) ?_
    refine lv_bipush (v := 20) hx hb dX4_told_113 (by decide) ?_
    refine W_itei (P := 20 ≤ p0) (a := (fX4_toldOfPerson oc ((p0 - 20) / 10) ((p0 - 20) - (p0 - 20) / 10 * 10))) (b := (-2)) (J := 141) (ls9 := ls) (rest9 := []) (fun ja4 jb4 => ?_) ?_
    · refine lv_icmp_ge (tgt := 123) hx hb dX4_told_115 (by decide) (fun c3 => ?_) (fun c3 => ?_)
      · skip
        refine lv_aload_n hx hb dX4_told_123 rfl (lv_at hl 0 rfl) ?_
        refine lv_iload_n hx hb dX4_told_124 rfl (lv_at hl 1 rfl) ?_
        refine lv_bipush (v := 20) hx hb dX4_told_125 (by decide) ?_
        refine lv_isub hx hb dX4_told_127 ?_
        refine lv_bipush (v := 10) hx hb dX4_told_128 (by decide) ?_
        refine lv_idiv hx hb dX4_told_130 (by decide) ?_
        refine lv_iload_n hx hb dX4_told_131 rfl (lv_at hl 1 rfl) ?_
        refine lv_bipush (v := 20) hx hb dX4_told_132 (by decide) ?_
        refine lv_isub hx hb dX4_told_134 ?_
        refine lv_bipush (v := 10) hx hb dX4_told_135 (by decide) ?_
        refine lv_irem hx hb dX4_told_137 (by decide) ?_
        refine rcVi (b := hq) (As := [.int ((p0 - 20) / 10), .int ((p0 - 20) - (p0 - 20) / 10 * 10)]) (rest := []) hSF (kX4_toldOfPerson l D cI cZ cC hq hu hi hg hy hw hc ac oc ((p0 - 20) / 10) ((p0 - 20) - (p0 - 20) / 10 * 10)) (cwV 2 hts gX4_told_X4_toldOfPerson rfl rfl rfl (by decide +kernel) ⟨Nat.le_of_ble_eq_true rfl, Nat.le_of_ble_eq_true rfl⟩) (va_recv hK hP (ci := 4) (q0 := 0) rfl rfl) (hP.sub [0, 1, 2, 3, 4, 5, 6] rfl) hK hN rfl rfl hl.1 (Nat.le_of_ble_eq_true rfl) dX4_told_138 ⟨Nat.zero_le _, Nat.zero_le _⟩ ?_
        exact ja4 c3
      · skip
        refine lv_bipush (v := (-2)) hx hb dX4_told_118 (by decide) ?_
        refine lv_goto (tgt := 141) hx hb dX4_told_120 (by decide) ?_
        exact jb4 c3
    have e9 : fX4_told oc og p0 = (if 20 ≤ p0 then (fX4_toldOfPerson oc ((p0 - 20) / 10) ((p0 - 20) - (p0 - 20) / 10 * 10)) else (-2)) := by
      simp only [fX4_told, if_neg q1_0, if_neg q1_1, if_neg q1_2, if_neg q1_3, if_neg q1_4, if_neg q1_5, if_pos c2]
    exact W.iret hx hb hr (fun t ht hW => ⟨_, rfl, e9.symm, ht⟩) (fun _ h9 => absurd h9 List.not_mem_nil) dX4_told_141
  · skip
    refine lv_aload_n hx hb dX4_told_99 rfl (lv_at hl 0 rfl) ?_
    refine va_get (D := D) (ci := 4) (v := .ref hc) (C := RX4) (T := TX4) (N := 6) hx hb hts hi4 hown hK hP 0 rfl rfl 0 (by decide) hf10 (fun _ h9 => h9) rfl dX4_told_100 ?_
    refine va_get (D := D) (ci := 0) (v := .ref (ac 9)) (C := RX0) (T := TX0) (N := 12) hx hb hts hi0 hown hK hP 1 rfl rfl 9 (by decide) hf128 (fun _ h9 => h9) rfl dX4_told_103 ?_
    refine lv_iload_n hx hb dX4_told_106 rfl (lv_at hl 1 rfl) ?_
    refine lv_bipush (v := 10) hx hb dX4_told_107 (by decide) ?_
    refine lv_isub hx hb dX4_told_109 ?_
    refine va_iald (f := (oc.2 9)) hx hb hK hP 4 0 rfl rfl (wi_sub (by with_reducible assumption)) dX4_told_110 ?_
    have e9 : fX4_told oc og p0 = ((oc.2 9) (p0 - 10).toNatClampNeg) := by
      simp only [fX4_told, if_neg q1_0, if_neg q1_1, if_neg q1_2, if_neg q1_3, if_neg q1_4, if_neg q1_5, if_neg c2]
    exact W.iret hx hb hr (fun t ht hW => ⟨_, rfl, e9.symm, ht⟩) (fun _ h9 => absurd h9 List.not_mem_nil) dX4_told_111

