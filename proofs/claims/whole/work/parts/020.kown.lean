set_option maxHeartbeats 4000000 in
set_option maxRecDepth 100000 in
theorem kX4_within (l : Launch) (D : va_G) (cI cZ cC : ClassId)  (p0 : Int32) (p1 : Int32) (p2 : Int32)  : Met l yX4_within wsX4_within ({ frames := 0, cells := 0, slots := 0, locals := 0 }) (pR D (tyv cI cZ cC) ([]) [.int p0, .int p1, .int p2]) (vp_Si (fun r => r = fX4_within p0 p1 p2)) 0 0 (fun _ => False) := by
  refine Met.ofW (cc := cX4_within) (maxL := 3) (ret := (some .boolean)) (by decide) rfl ?_
  intro p e s m args below meth c s₁ B hml hv
  obtain ⟨rfl, hP, hK, hN⟩ := hv
  have hx := B.exec
  have hb := B.bytes
  have hr := B.returns
  have hts := atoms_spec (ws := wsX4_within) B.pre
  have hown : s.vm.findClass RX4 = some m.cls := findClass_of_methodNamed B.named
  have hlocks := B.notSynchronized
  have hP : va_P D vwCl ([]) s.heap := hP
  have hl := lv_entry ([.int p0, .int p1, .int p2]) (n := 3) (Nat.le_of_ble_eq_true rfl)
  rw [lg_entry_eq]
  generalize (lg_sl ([.int p0, .int p1, .int p2]) ++ List.replicate (3 - (lg_sl ([.int p0, .int p1, .int p2])).length) Slot.unset).toArray = ls at hl ⊢
  have hl : lv_has ls 3 [(0, .int p0), (1, .int p1), (2, .int p2)] := hl
  have hSF : CallFix p m c cX4_within 3 s _ wsX4_within RX4 := ⟨hx, hb, hml, hown, hts⟩
  refine lv_iload_n hx hb dX4_within_0 rfl (lv_at hl 0 rfl) ?_
  refine lv_iload_n hx hb dX4_within_1 rfl (lv_at hl 1 rfl) ?_
  refine W_itei (P := p0 < p1) (a := 0) (b := (if p2 < p0 then (0 : Int32) else 1)) (J := 15) (ls9 := ls) (rest9 := []) (fun ja2 jb2 => ?_) ?_
  · refine lv_icmp_lt (tgt := 14) hx hb dX4_within_2 (by decide) (fun c1 => ?_) (fun c1 => ?_)
    · skip
      refine lv_iconst (v := 0) hx hb dX4_within_14 (by decide) ?_
      exact ja2 c1
    · skip
      refine lv_iload_n hx hb dX4_within_5 rfl (lv_at hl 0 rfl) ?_
      refine lv_iload_n hx hb dX4_within_6 rfl (lv_at hl 2 rfl) ?_
      refine W_itei (P := p2 < p0) (a := 0) (b := 1) (J := 15) (ls9 := ls) (rest9 := []) (fun ja4 jb4 => ?_) ?_
      · refine lv_icmp_gt (tgt := 14) hx hb dX4_within_7 (by decide) (fun c3 => ?_) (fun c3 => ?_)
        · skip
          refine lv_iconst (v := 0) hx hb dX4_within_14 (by decide) ?_
          exact ja4 c3
        · skip
          refine lv_iconst (v := 1) hx hb dX4_within_10 (by decide) ?_
          refine lv_goto (tgt := 15) hx hb dX4_within_11 (by decide) ?_
          exact jb4 c3
      exact jb2 c1
  have e9 : fX4_within p0 p1 p2 = (if p0 < p1 then (0 : Int32) else (if p2 < p0 then (0 : Int32) else 1)) := by
    rfl
  exact W.zret hx hb hr (nar_z (if_z (Or.inl rfl) (if_z (Or.inl rfl) (Or.inr rfl)))) (fun t ht hW => ⟨_, rfl, e9.symm, ht⟩) (fun _ h9 => absurd h9 List.not_mem_nil) dX4_within_15

set_option maxHeartbeats 4000000 in
set_option maxRecDepth 100000 in
theorem kX4_isPlace (l : Launch) (D : va_G) (cI cZ cC : ClassId)  (p0 : Int32)  : Met l yX4_isPlace wsX4_isPlace ({ frames := 1, cells := 0, slots := 0, locals := 22 }) (pR D (tyv cI cZ cC) ([]) [.int p0]) (vp_Si (fun r => r = fX4_isPlace p0)) 0 0 (fun _ => False) := by
  refine Met.ofW (cc := cX4_isPlace) (maxL := 1) (ret := (some .boolean)) (by decide) rfl ?_
  intro p e s m args below meth c s₁ B hml hv
  obtain ⟨rfl, hP, hK, hN⟩ := hv
  have hx := B.exec
  have hb := B.bytes
  have hr := B.returns
  have hts := atoms_spec (ws := wsX4_isPlace) B.pre
  have hown : s.vm.findClass RX4 = some m.cls := findClass_of_methodNamed B.named
  have hlocks := B.notSynchronized
  have hP : va_P D vwCl ([]) s.heap := hP
  have hl := lv_entry ([.int p0]) (n := 1) (Nat.le_of_ble_eq_true rfl)
  rw [lg_entry_eq]
  generalize (lg_sl ([.int p0]) ++ List.replicate (1 - (lg_sl ([.int p0])).length) Slot.unset).toArray = ls at hl ⊢
  have hl : lv_has ls 1 [(0, .int p0)] := hl
  have hSF : CallFix p m c cX4_isPlace 1 s _ wsX4_isPlace RX4 := ⟨hx, hb, hml, hown, hts⟩
  refine lv_iload_n hx hb dX4_isPlace_0 rfl (lv_at hl 0 rfl) ?_
  refine lv_iconst (v := 0) hx hb dX4_isPlace_1 (by decide) ?_
  refine lv_bipush (v := 9) hx hb dX4_isPlace_2 (by decide) ?_
  refine rcSi (As := [.int p0, .int 0, .int 9]) (rest := []) hSF (kX4_within l D cI cZ cC p0 0 9) (va_cwS 3 hts gX4_isPlace_X4_within rfl rfl rfl (by decide +kernel) ⟨Nat.le_of_ble_eq_true rfl, Nat.le_of_ble_eq_true rfl⟩) (hP.sub [] rfl) hK hN rfl rfl hl.1 (Nat.le_of_ble_eq_true rfl) dX4_isPlace_4 ⟨Nat.zero_le _, Nat.zero_le _⟩ ?_
  have e9 : fX4_isPlace p0 = (fX4_within p0 0 9) := by
    rfl
  exact W.zret hx hb hr (nar_z (zX4_within p0 0 9)) (fun t ht hW => ⟨_, rfl, e9.symm, ht⟩) (fun _ h9 => absurd h9 List.not_mem_nil) dX4_isPlace_7

set_option maxHeartbeats 4000000 in
set_option maxRecDepth 100000 in
theorem kX4_hasBit (l : Launch) (D : va_G) (cI cZ cC : ClassId)  (p0 : Int32) (p1 : Int32)  : Met l yX4_hasBit wsX4_hasBit ({ frames := 0, cells := 0, slots := 0, locals := 0 }) (pR D (tyv cI cZ cC) ([]) [.int p0, .int p1]) (vp_Si (fun r => r = fX4_hasBit p0 p1)) 0 0 (fun _ => False) := by
  refine Met.ofW (cc := cX4_hasBit) (maxL := 2) (ret := (some .boolean)) (by decide) rfl ?_
  intro p e s m args below meth c s₁ B hml hv
  obtain ⟨rfl, hP, hK, hN⟩ := hv
  have hx := B.exec
  have hb := B.bytes
  have hr := B.returns
  have hts := atoms_spec (ws := wsX4_hasBit) B.pre
  have hown : s.vm.findClass RX4 = some m.cls := findClass_of_methodNamed B.named
  have hlocks := B.notSynchronized
  have hP : va_P D vwCl ([]) s.heap := hP
  have hl := lv_entry ([.int p0, .int p1]) (n := 2) (Nat.le_of_ble_eq_true rfl)
  rw [lg_entry_eq]
  generalize (lg_sl ([.int p0, .int p1]) ++ List.replicate (2 - (lg_sl ([.int p0, .int p1])).length) Slot.unset).toArray = ls at hl ⊢
  have hl : lv_has ls 2 [(0, .int p0), (1, .int p1)] := hl
  have hSF : CallFix p m c cX4_hasBit 2 s _ wsX4_hasBit RX4 := ⟨hx, hb, hml, hown, hts⟩
  refine lv_iload_n hx hb dX4_hasBit_0 rfl (lv_at hl 0 rfl) ?_
  refine lv_iload_n hx hb dX4_hasBit_1 rfl (lv_at hl 1 rfl) ?_
  refine lv_ishr hx hb dX4_hasBit_2 ?_
  refine lv_iconst (v := 1) hx hb dX4_hasBit_3 (by decide) ?_
  refine lv_iand hx hb dX4_hasBit_4 ?_
  refine lv_iconst (v := 1) hx hb dX4_hasBit_5 (by decide) ?_
  refine W_itei (P := ((p0 >>> (p1 &&& 31)) &&& 1) = 1) (a := 1) (b := 0) (J := 14) (ls9 := ls) (rest9 := []) (fun ja2 jb2 => ?_) ?_
  · refine lv_icmp_ne (tgt := 13) hx hb dX4_hasBit_6 (by decide) (fun c1 => ?_) (fun c1 => ?_)
    · skip
      refine lv_iconst (v := 0) hx hb dX4_hasBit_13 (by decide) ?_
      exact jb2 c1
    · skip
      refine lv_iconst (v := 1) hx hb dX4_hasBit_9 (by decide) ?_
      refine lv_goto (tgt := 14) hx hb dX4_hasBit_10 (by decide) ?_
      exact ja2 c1
  have e9 : fX4_hasBit p0 p1 = (if ((p0 >>> (p1 &&& 31)) &&& 1) = 1 then (1 : Int32) else 0) := by
    rfl
  exact W.zret hx hb hr (nar_z (if_z (Or.inr rfl) (Or.inl rfl))) (fun t ht hW => ⟨_, rfl, e9.symm, ht⟩) (fun _ h9 => absurd h9 List.not_mem_nil) dX4_hasBit_14

set_option maxHeartbeats 4000000 in
set_option maxRecDepth 100000 in
theorem kX4_withBit (l : Launch) (D : va_G) (cI cZ cC : ClassId)  (p0 : Int32) (p1 : Int32) (p2 : Int32)  : Met l yX4_withBit wsX4_withBit ({ frames := 0, cells := 0, slots := 0, locals := 0 }) (pR D (tyv cI cZ cC) ([]) [.int p0, .int p1, .int p2]) (vp_Si (fun r => r = fX4_withBit p0 p1 p2)) 0 0 (fun _ => False) := by
  refine Met.ofW (cc := cX4_withBit) (maxL := 3) (ret := (some .int)) (by decide) rfl ?_
  intro p e s m args below meth c s₁ B hml hv
  obtain ⟨rfl, hP, hK, hN⟩ := hv
  have hx := B.exec
  have hb := B.bytes
  have hr := B.returns
  have hts := atoms_spec (ws := wsX4_withBit) B.pre
  have hown : s.vm.findClass RX4 = some m.cls := findClass_of_methodNamed B.named
  have hlocks := B.notSynchronized
  have hP : va_P D vwCl ([]) s.heap := hP
  have hl := lv_entry ([.int p0, .int p1, .int p2]) (n := 3) (Nat.le_of_ble_eq_true rfl)
  rw [lg_entry_eq]
  generalize (lg_sl ([.int p0, .int p1, .int p2]) ++ List.replicate (3 - (lg_sl ([.int p0, .int p1, .int p2])).length) Slot.unset).toArray = ls at hl ⊢
  have hl : lv_has ls 3 [(0, .int p0), (1, .int p1), (2, .int p2)] := hl
  have hSF : CallFix p m c cX4_withBit 3 s _ wsX4_withBit RX4 := ⟨hx, hb, hml, hown, hts⟩
  refine lv_iload_n hx hb dX4_withBit_0 rfl (lv_at hl 2 rfl) ?_
  refine W_itei (P := p2 = 0) (a := (p0 &&& ((1 <<< (p1 &&& 31)) ^^^ (-1)))) (b := (p0 ||| (1 <<< (p1 &&& 31)))) (J := 19) (ls9 := ls) (rest9 := []) (fun ja2 jb2 => ?_) ?_
  · refine lv_if_eq (tgt := 12) hx hb dX4_withBit_1 (by decide) (fun c1 => ?_) (fun c1 => ?_)
    · skip
      refine lv_iload_n hx hb dX4_withBit_12 rfl (lv_at hl 0 rfl) ?_
      refine lv_iconst (v := 1) hx hb dX4_withBit_13 (by decide) ?_
      refine lv_iload_n hx hb dX4_withBit_14 rfl (lv_at hl 1 rfl) ?_
      refine lv_ishl hx hb dX4_withBit_15 ?_
      refine lv_iconst (v := (-1)) hx hb dX4_withBit_16 (by decide) ?_
      refine lv_ixor hx hb dX4_withBit_17 ?_
      refine lv_iand hx hb dX4_withBit_18 ?_
      exact ja2 c1
    · skip
      refine lv_iload_n hx hb dX4_withBit_4 rfl (lv_at hl 0 rfl) ?_
      refine lv_iconst (v := 1) hx hb dX4_withBit_5 (by decide) ?_
      refine lv_iload_n hx hb dX4_withBit_6 rfl (lv_at hl 1 rfl) ?_
      refine lv_ishl hx hb dX4_withBit_7 ?_
      refine lv_ior hx hb dX4_withBit_8 ?_
      refine lv_goto (tgt := 19) hx hb dX4_withBit_9 (by decide) ?_
      exact jb2 c1
  have e9 : fX4_withBit p0 p1 p2 = (if p2 = 0 then (p0 &&& ((1 <<< (p1 &&& 31)) ^^^ (-1))) else (p0 ||| (1 <<< (p1 &&& 31)))) := by
    rfl
  exact W.iret hx hb hr (fun t ht hW => ⟨_, rfl, e9.symm, ht⟩) (fun _ h9 => absurd h9 List.not_mem_nil) dX4_withBit_19

set_option maxHeartbeats 4000000 in
set_option maxRecDepth 100000 in
theorem kX4_firstPerson (l : Launch) (D : va_G) (cI cZ cC : ClassId)  (p0 : Int32)  : Met l yX4_firstPerson wsX4_firstPerson ({ frames := 1, cells := 0, slots := 0, locals := 21 }) (pR D (tyv cI cZ cC) ([]) [.int p0]) (vp_Si (fun r => r = fX4_firstPerson p0)) 0 0 (fun _ => False) := by
  refine Met.ofW (cc := cX4_firstPerson) (maxL := 2) (ret := (some .int)) (by decide) rfl ?_
  intro p e s m args below meth c s₁ B hml hv
  obtain ⟨rfl, hP, hK, hN⟩ := hv
  have hx := B.exec
  have hb := B.bytes
  have hr := B.returns
  have hts := atoms_spec (ws := wsX4_firstPerson) B.pre
  have hown : s.vm.findClass RX4 = some m.cls := findClass_of_methodNamed B.named
  have hlocks := B.notSynchronized
  have hP : va_P D vwCl ([]) s.heap := hP
  have hl := lv_entry ([.int p0]) (n := 2) (Nat.le_of_ble_eq_true rfl)
  rw [lg_entry_eq]
  generalize (lg_sl ([.int p0]) ++ List.replicate (2 - (lg_sl ([.int p0])).length) Slot.unset).toArray = ls at hl ⊢
  have hl : lv_has ls 2 [(0, .int p0)] := hl
  have hSF : CallFix p m c cX4_firstPerson 2 s _ wsX4_firstPerson RX4 := ⟨hx, hb, hml, hown, hts⟩
  refine lv_iconst (v := 0) hx hb dX4_firstPerson_0 (by decide) ?_
  refine lv_istore_n (lv' := [(1, .int 0), (0, .int p0)]) hx hb dX4_firstPerson_1 rfl hl (by decide) rfl (fun ls hl => ?_)
  refine W_ltR (σ := Unit) (6) (fun r9 k9 x9 ls9 => lv_has ls9 2 [(1, .int (nI k9)), (0, .int p0)] ∧ fX4_firstPerson_L2 p0 r9 k9  = fX4_firstPerson_L2 p0 (6) 0) () ⟨lv_sub hl [0, 1] rfl, rfl⟩ ?_ ?_
  · intro r1 k1 y1 ls hr1 hI9 ih1
    obtain ⟨hl, hG1⟩ := hI9
    have hG1 : fX4_firstPerson_L2 p0 (r1 + 1) k1  = fX4_firstPerson_L2 p0 (6) 0 := hG1
    have hl : lv_has ls 2 [(1, .int (nI k1)), (0, .int p0)] := hl
    have hk1 : k1 < 6 := by omega
    refine lv_iload_n hx hb dX4_firstPerson_2 rfl (lv_at hl 0 rfl) ?_
    refine lv_bipush (v := 6) hx hb dX4_firstPerson_3 (by decide) ?_
    refine lv_icmp_ge (tgt := 24) hx hb dX4_firstPerson_5 (by decide) (fun c2 => absurd c2 (nI_ge hk1 (by decide))) (fun c2 => ?_)
    refine lv_iload_n hx hb dX4_firstPerson_8 rfl (lv_at hl 1 rfl) ?_
    refine lv_iload_n hx hb dX4_firstPerson_9 rfl (lv_at hl 0 rfl) ?_
    refine rcSi (As := [.int p0, .int (nI k1)]) (rest := []) hSF (kX4_hasBit l D cI cZ cC p0 (nI k1)) (va_cwS 2 hts gX4_firstPerson_X4_hasBit rfl rfl rfl (by decide +kernel) ⟨Nat.le_of_ble_eq_true rfl, Nat.le_of_ble_eq_true rfl⟩) (hP.sub [] rfl) hK hN rfl rfl hl.1 (Nat.le_of_ble_eq_true rfl) dX4_firstPerson_10 ⟨Nat.zero_le _, Nat.zero_le _⟩ ?_
    refine lv_if_eq (tgt := 18) hx hb dX4_firstPerson_13 (by decide) (fun c3 => ?_) (fun c3 => ?_)
    · skip
      refine lv_iinc (v := ((nI k1) + 1)) (lv' := [(1, .int ((nI k1) + 1)), (0, .int p0)]) hx hb dX4_firstPerson_18 hl (k := 0) rfl rfl (by decide) rfl (fun ls hl => ?_)
      refine lv_goto (tgt := 2) hx hb dX4_firstPerson_21 (by decide) ?_
      have hl9 : lv_has ls 2 [(1, .int (nI (k1 + 1))), (0, .int p0)] := by
        rw [nI_succ]; exact lv_sub hl [0, 1] rfl
      have e8 : fX4_firstPerson_L2 p0 r1 (k1 + 1) = fX4_firstPerson_L2 p0 (6) 0 := by
        rw [← hG1]
        simp only [fX4_firstPerson_L2, if_pos c3]
      exact ih1 () ls ⟨hl9, e8⟩
    · skip
      refine lv_iload_n hx hb dX4_firstPerson_16 rfl (lv_at hl 0 rfl) ?_
      have e9 : fX4_firstPerson p0 = (nI k1) := by
        refine Eq.trans (b := fX4_firstPerson_L2 p0 (6) 0) ?_ ?_
        · rfl
        · rw [← hG1]; simp only [fX4_firstPerson_L2, if_neg c3]
      exact W.iret hx hb hr (fun t ht hW => ⟨_, rfl, e9.symm, ht⟩) (fun _ h9 => absurd h9 List.not_mem_nil) dX4_firstPerson_17
  intro k1 y1 ls hB1 hI9
  obtain ⟨hl, hG1⟩ := hI9
  have hG1 : fX4_firstPerson_L2 p0 0 k1  = fX4_firstPerson_L2 p0 (6) 0 := hG1
  have hl : lv_has ls 2 [(1, .int (nI k1)), (0, .int p0)] := hl
  refine lv_iload_n hx hb dX4_firstPerson_2 rfl (lv_at hl 0 rfl) ?_
  refine lv_bipush (v := 6) hx hb dX4_firstPerson_3 (by decide) ?_
  refine lv_icmp_ge (tgt := 24) hx hb dX4_firstPerson_5 (by decide) (fun c4 => ?_) (fun c4 => absurd (by rw [hB1]; exact nI_le (Nat.le_refl _) (by decide)) c4)
  refine lv_bipush (v := (-6)) hx hb dX4_firstPerson_24 (by decide) ?_
  have e9 : fX4_firstPerson p0 = (-6) := by
    refine Eq.trans (b := fX4_firstPerson_L2 p0 (6) 0) ?_ ?_
    · rfl
    · rw [← hG1]; rfl
  exact W.iret hx hb hr (fun t ht hW => ⟨_, rfl, e9.symm, ht⟩) (fun _ h9 => absurd h9 List.not_mem_nil) dX4_firstPerson_26

set_option maxHeartbeats 4000000 in
set_option maxRecDepth 100000 in
theorem kX4_commonDivisor (l : Launch) (D : va_G) (cI cZ cC : ClassId)  (p0 : Int32) (p1 : Int32)  : Met l yX4_commonDivisor wsX4_commonDivisor ({ frames := 0, cells := 0, slots := 0, locals := 0 }) (pR D (tyv cI cZ cC) ([]) [.int p0, .int p1]) (vp_Si (fun r => r = fX4_commonDivisor p0 p1)) 0 0 (fun _ => False) := by
  refine Met.ofW (cc := cX4_commonDivisor) (maxL := 6) (ret := (some .int)) (by decide) rfl ?_
  intro p e s m args below meth c s₁ B hml hv
  obtain ⟨rfl, hP, hK, hN⟩ := hv
  have hx := B.exec
  have hb := B.bytes
  have hr := B.returns
  have hts := atoms_spec (ws := wsX4_commonDivisor) B.pre
  have hown : s.vm.findClass RX4 = some m.cls := findClass_of_methodNamed B.named
  have hlocks := B.notSynchronized
  have hP : va_P D vwCl ([]) s.heap := hP
  have hl := lv_entry ([.int p0, .int p1]) (n := 6) (Nat.le_of_ble_eq_true rfl)
  rw [lg_entry_eq]
  generalize (lg_sl ([.int p0, .int p1]) ++ List.replicate (6 - (lg_sl ([.int p0, .int p1])).length) Slot.unset).toArray = ls at hl ⊢
  have hl : lv_has ls 6 [(0, .int p0), (1, .int p1)] := hl
  have hSF : CallFix p m c cX4_commonDivisor 6 s _ wsX4_commonDivisor RX4 := ⟨hx, hb, hml, hown, hts⟩
  refine lv_iload_n hx hb dX4_commonDivisor_0 rfl (lv_at hl 0 rfl) ?_
  refine lv_istore_n (lv' := [(2, .int p0), (0, .int p0), (1, .int p1)]) hx hb dX4_commonDivisor_1 rfl hl (by decide) rfl (fun ls hl => ?_)
  refine lv_iload_n hx hb dX4_commonDivisor_2 rfl (lv_at hl 2 rfl) ?_
  refine lv_istore_n (lv' := [(3, .int p1), (2, .int p0), (0, .int p0), (1, .int p1)]) hx hb dX4_commonDivisor_3 rfl hl (by decide) rfl (fun ls hl => ?_)
  refine lv_iconst (v := 0) hx hb dX4_commonDivisor_4 (by decide) ?_
  refine lv_istore (lv' := [(4, .int 0), (3, .int p1), (2, .int p0), (0, .int p0), (1, .int p1)]) hx hb dX4_commonDivisor_5 hl (by decide) rfl (fun ls hl => ?_)
  refine W_ltR (σ := Int32 × Int32) (1000) (fun r9 k9 x9 ls9 => lv_has ls9 6 [(4, .int (nI k9)), (3, .int x9.1), (2, .int x9.2), (0, .int p0), (1, .int p1)] ∧ fX4_commonDivisor_L7 r9 k9 x9.1 x9.2 = fX4_commonDivisor_L7 (1000) 0 p1 p0) (p1, p0) ⟨lv_sub hl [0, 1, 2, 3, 4] rfl, rfl⟩ ?_ ?_
  · intro r1 k1 y1 ls hr1 hI9 ih1
    obtain ⟨x3_1, x2_1⟩ := y1
    obtain ⟨hl, hG1⟩ := hI9
    have hG1 : fX4_commonDivisor_L7 (r1 + 1) k1 x3_1 x2_1 = fX4_commonDivisor_L7 (1000) 0 p1 p0 := hG1
    have hl : lv_has ls 6 [(4, .int (nI k1)), (3, .int x3_1), (2, .int x2_1), (0, .int p0), (1, .int p1)] := hl
    have hk1 : k1 < 1000 := by omega
    refine lv_iload hx hb dX4_commonDivisor_7 (lv_at hl 0 rfl) ?_
    refine lv_sipush (v := 1000) hx hb dX4_commonDivisor_9 (by decide) ?_
    refine lv_icmp_ge (tgt := 35) hx hb dX4_commonDivisor_12 (by decide) (fun c2 => absurd c2 (nI_ge hk1 (by decide))) (fun c2 => ?_)
    refine lv_iload_n hx hb dX4_commonDivisor_15 rfl (lv_at hl 1 rfl) ?_
    refine lv_if_eq (tgt := 35) hx hb dX4_commonDivisor_16 (by decide) (fun c3 => ?_) (fun c3 => ?_)
    · skip
      refine lv_iload_n hx hb dX4_commonDivisor_35 rfl (lv_at hl 2 rfl) ?_
      have e9 : fX4_commonDivisor p0 p1 = x2_1 := by
        refine Eq.trans (b := fX4_commonDivisor_L7 (1000) 0 p1 p0) ?_ ?_
        · rfl
        · rw [← hG1]; simp only [fX4_commonDivisor_L7, if_pos c3]
      exact W.iret hx hb hr (fun t ht hW => ⟨_, rfl, e9.symm, ht⟩) (fun _ h9 => absurd h9 List.not_mem_nil) dX4_commonDivisor_36
    · skip
      refine lv_iload_n hx hb dX4_commonDivisor_19 rfl (lv_at hl 2 rfl) ?_
      refine lv_iload_n hx hb dX4_commonDivisor_20 rfl (lv_at hl 1 rfl) ?_
      refine lv_irem hx hb dX4_commonDivisor_21 (by with_reducible assumption) ?_
      refine lv_istore (lv' := [(5, .int (x2_1 - x2_1 / x3_1 * x3_1)), (4, .int (nI k1)), (3, .int x3_1), (2, .int x2_1), (0, .int p0), (1, .int p1)]) hx hb dX4_commonDivisor_22 hl (by decide) rfl (fun ls hl => ?_)
      refine lv_iload_n hx hb dX4_commonDivisor_24 rfl (lv_at hl 2 rfl) ?_
      refine lv_istore_n (lv' := [(2, .int x3_1), (5, .int (x2_1 - x2_1 / x3_1 * x3_1)), (4, .int (nI k1)), (3, .int x3_1), (0, .int p0), (1, .int p1)]) hx hb dX4_commonDivisor_25 rfl hl (by decide) rfl (fun ls hl => ?_)
      refine lv_iload hx hb dX4_commonDivisor_26 (lv_at hl 1 rfl) ?_
      refine lv_istore_n (lv' := [(3, .int (x2_1 - x2_1 / x3_1 * x3_1)), (2, .int x3_1), (5, .int (x2_1 - x2_1 / x3_1 * x3_1)), (4, .int (nI k1)), (0, .int p0), (1, .int p1)]) hx hb dX4_commonDivisor_28 rfl hl (by decide) rfl (fun ls hl => ?_)
      refine lv_iinc (v := ((nI k1) + 1)) (lv' := [(4, .int ((nI k1) + 1)), (3, .int (x2_1 - x2_1 / x3_1 * x3_1)), (2, .int x3_1), (5, .int (x2_1 - x2_1 / x3_1 * x3_1)), (0, .int p0), (1, .int p1)]) hx hb dX4_commonDivisor_29 hl (k := 3) rfl rfl (by decide) rfl (fun ls hl => ?_)
      refine lv_goto (tgt := 7) hx hb dX4_commonDivisor_32 (by decide) ?_
      have hl9 : lv_has ls 6 [(4, .int (nI (k1 + 1))), (3, .int (x2_1 - x2_1 / x3_1 * x3_1)), (2, .int x3_1), (0, .int p0), (1, .int p1)] := by
        rw [nI_succ]; exact lv_sub hl [0, 1, 2, 4, 5] rfl
      have e8 : fX4_commonDivisor_L7 r1 (k1 + 1) (x2_1 - x2_1 / x3_1 * x3_1) x3_1 = fX4_commonDivisor_L7 (1000) 0 p1 p0 := by
        rw [← hG1]
        simp only [fX4_commonDivisor_L7, if_neg c3]
      exact ih1 ((x2_1 - x2_1 / x3_1 * x3_1), x3_1) ls ⟨hl9, e8⟩
  intro k1 y1 ls hB1 hI9
  obtain ⟨x3_1, x2_1⟩ := y1
  obtain ⟨hl, hG1⟩ := hI9
  have hG1 : fX4_commonDivisor_L7 0 k1 x3_1 x2_1 = fX4_commonDivisor_L7 (1000) 0 p1 p0 := hG1
  have hl : lv_has ls 6 [(4, .int (nI k1)), (3, .int x3_1), (2, .int x2_1), (0, .int p0), (1, .int p1)] := hl
  refine lv_iload hx hb dX4_commonDivisor_7 (lv_at hl 0 rfl) ?_
  refine lv_sipush (v := 1000) hx hb dX4_commonDivisor_9 (by decide) ?_
  refine lv_icmp_ge (tgt := 35) hx hb dX4_commonDivisor_12 (by decide) (fun c4 => ?_) (fun c4 => absurd (by rw [hB1]; exact nI_le (Nat.le_refl _) (by decide)) c4)
  refine lv_iload_n hx hb dX4_commonDivisor_35 rfl (lv_at hl 2 rfl) ?_
  have e9 : fX4_commonDivisor p0 p1 = x2_1 := by
    refine Eq.trans (b := fX4_commonDivisor_L7 (1000) 0 p1 p0) ?_ ?_
    · rfl
    · rw [← hG1]; rfl
  exact W.iret hx hb hr (fun t ht hW => ⟨_, rfl, e9.symm, ht⟩) (fun _ h9 => absurd h9 List.not_mem_nil) dX4_commonDivisor_36

set_option maxHeartbeats 4000000 in
set_option maxRecDepth 100000 in
theorem kX4_fraction (l : Launch) (D : va_G) (cI cZ cC : ClassId)  (p0 : Int32) (p1 : Int32) (p2 : Int32)  : Met l yX4_fraction wsX4_fraction ({ frames := 1, cells := 0, slots := 0, locals := 25 }) (pR D (tyv cI cZ cC) ([]) [.int p0, .int p1, .int p2]) (vp_Sl (fun r => r = fX4_fraction p0 p1 p2)) 0 0 (fun _ => False) := by
  refine Met.ofW (cc := cX4_fraction) (maxL := 4) (ret := (some .long)) (by decide) rfl ?_
  intro p e s m args below meth c s₁ B hml hv
  obtain ⟨rfl, hP, hK, hN⟩ := hv
  have hx := B.exec
  have hb := B.bytes
  have hr := B.returns
  have hts := atoms_spec (ws := wsX4_fraction) B.pre
  have hown : s.vm.findClass RX4 = some m.cls := findClass_of_methodNamed B.named
  have hlocks := B.notSynchronized
  have hP : va_P D vwCl ([]) s.heap := hP
  have hl := lv_entry ([.int p0, .int p1, .int p2]) (n := 4) (Nat.le_of_ble_eq_true rfl)
  rw [lg_entry_eq]
  generalize (lg_sl ([.int p0, .int p1, .int p2]) ++ List.replicate (4 - (lg_sl ([.int p0, .int p1, .int p2])).length) Slot.unset).toArray = ls at hl ⊢
  have hl : lv_has ls 4 [(0, .int p0), (1, .int p1), (2, .int p2)] := hl
  have hSF : CallFix p m c cX4_fraction 4 s _ wsX4_fraction RX4 := ⟨hx, hb, hml, hown, hts⟩
  refine lv_iload_n hx hb dX4_fraction_0 rfl (lv_at hl 0 rfl) ?_
  refine lv_iload_n hx hb dX4_fraction_1 rfl (lv_at hl 1 rfl) ?_
  refine rcSi (As := [.int p0, .int p1]) (rest := []) hSF (kX4_commonDivisor l D cI cZ cC p0 p1) (va_cwS 2 hts gX4_fraction_X4_commonDivisor rfl rfl rfl (by decide +kernel) ⟨Nat.le_of_ble_eq_true rfl, Nat.le_of_ble_eq_true rfl⟩) (hP.sub [] rfl) hK hN rfl rfl hl.1 (Nat.le_of_ble_eq_true rfl) dX4_fraction_2 ⟨Nat.zero_le _, Nat.zero_le _⟩ ?_
  refine lv_istore_n (lv' := [(3, .int (fX4_commonDivisor p0 p1)), (0, .int p0), (1, .int p1), (2, .int p2)]) hx hb dX4_fraction_5 rfl hl (by decide) rfl (fun ls hl => ?_)
  refine lv_iload_n hx hb dX4_fraction_6 rfl (lv_at hl 0 rfl) ?_
  refine lv_iconst (v := 1) hx hb dX4_fraction_7 (by decide) ?_
  refine lv_icmp_ge (tgt := 13) hx hb dX4_fraction_8 (by decide) (fun c1 => ?_) (fun c1 => ?_)
  · skip
    refine lv_iload_n hx hb dX4_fraction_13 rfl (lv_at hl 3 rfl) ?_
    refine W_itei (P := p2 = 0) (a := p0) (b := p1) (J := 22) (ls9 := ls) (rest9 := []) (fun ja3 jb3 => ?_) ?_
    · refine lv_if_ne (tgt := 21) hx hb dX4_fraction_14 (by decide) (fun c2 => ?_) (fun c2 => ?_)
      · skip
        refine lv_iload_n hx hb dX4_fraction_21 rfl (lv_at hl 2 rfl) ?_
        exact jb3 c2
      · skip
        refine lv_iload_n hx hb dX4_fraction_17 rfl (lv_at hl 1 rfl) ?_
        refine lv_goto (tgt := 22) hx hb dX4_fraction_18 (by decide) ?_
        exact ja3 c2
    refine lv_iload_n hx hb dX4_fraction_22 rfl (lv_at hl 0 rfl) ?_
    refine lv_idiv hx hb dX4_fraction_23 (nz_lt1 (by with_reducible assumption)) ?_
    refine lv_i2l hx hb dX4_fraction_24 rfl ?_
    have e9 : fX4_fraction p0 p1 p2 = ((if p2 = 0 then p0 else p1) / (fX4_commonDivisor p0 p1)).toInt64 := by
      simp only [fX4_fraction, if_pos c1]
    exact W.lret hx hb hr (fun t ht hW => ⟨_, rfl, e9.symm, ht⟩) (fun _ h9 => absurd h9 List.not_mem_nil) dX4_fraction_25
  · skip
    refine lv_lconst (v := 0) hx hb dX4_fraction_11 (by decide) ?_
    have e9 : fX4_fraction p0 p1 p2 = 0 := by
      simp only [fX4_fraction, if_neg c1]
    exact W.lret hx hb hr (fun t ht hW => ⟨_, rfl, e9.symm, ht⟩) (fun _ h9 => absurd h9 List.not_mem_nil) dX4_fraction_12

set_option maxHeartbeats 4000000 in
set_option maxRecDepth 100000 in
theorem kJ6_bitCount_0f7a4 (l : Launch) (D : va_G) (cI cZ cC : ClassId)  (p0 : Int32)  : Met l yJ6_bitCount_0f7a4 wsJ6_bitCount_0f7a4 ({ frames := 0, cells := 0, slots := 0, locals := 0 }) (pR D (tyv cI cZ cC) ([]) [.int p0]) (vp_Si (fun r => r = fJ6_bitCount_0f7a4 p0)) 0 0 (fun _ => False) := by
  refine Met.ofW (cc := cJ6_bitCount_0f7a4) (maxL := 1) (ret := (some .int)) (by decide) rfl ?_
  intro p e s m args below meth c s₁ B hml hv
  obtain ⟨rfl, hP, hK, hN⟩ := hv
  have hx := B.exec
  have hb := B.bytes
  have hr := B.returns
  have hts := atoms_spec (ws := wsJ6_bitCount_0f7a4) B.pre
  have hown : s.vm.findClass RJ6 = some m.cls := findClass_of_methodNamed B.named
  have hlocks := B.notSynchronized
  have hP : va_P D vwCl ([]) s.heap := hP
  have hl := lv_entry ([.int p0]) (n := 1) (Nat.le_of_ble_eq_true rfl)
  rw [lg_entry_eq]
  generalize (lg_sl ([.int p0]) ++ List.replicate (1 - (lg_sl ([.int p0])).length) Slot.unset).toArray = ls at hl ⊢
  have hl : lv_has ls 1 [(0, .int p0)] := hl
  have hSF : CallFix p m c cJ6_bitCount_0f7a4 1 s _ wsJ6_bitCount_0f7a4 RJ6 := ⟨hx, hb, hml, hown, hts⟩
  refine lv_iload_n hx hb dJ6_bitCount_0f7a4_0 rfl (lv_at hl 0 rfl) ?_
  refine lv_iload_n hx hb dJ6_bitCount_0f7a4_1 rfl (lv_at hl 0 rfl) ?_
  refine lv_iconst (v := 1) hx hb dJ6_bitCount_0f7a4_2 (by decide) ?_
  refine lv_iushr hx hb dJ6_bitCount_0f7a4_3 rfl ?_
  refine lv_ldcw (v := 1431655765) hx hb hown (hts (.constant RJ6 265 1431655765) (by decide +kernel)) dJ6_bitCount_0f7a4_4 ?_
  refine lv_iand hx hb dJ6_bitCount_0f7a4_7 ?_
  refine lv_isub hx hb dJ6_bitCount_0f7a4_8 ?_
  refine lv_topi (fun x1 ex1 => ?_)
  refine lv_istore_n (lv' := [(0, .int x1)]) hx hb dJ6_bitCount_0f7a4_9 rfl hl (by decide) rfl (fun ls hl => ?_)
  refine lv_iload_n hx hb dJ6_bitCount_0f7a4_10 rfl (lv_at hl 0 rfl) ?_
  refine lv_ldcw (v := 858993459) hx hb hown (hts (.constant RJ6 266 858993459) (by decide +kernel)) dJ6_bitCount_0f7a4_11 ?_
  refine lv_iand hx hb dJ6_bitCount_0f7a4_14 ?_
  refine lv_iload_n hx hb dJ6_bitCount_0f7a4_15 rfl (lv_at hl 0 rfl) ?_
  refine lv_iconst (v := 2) hx hb dJ6_bitCount_0f7a4_16 (by decide) ?_
  refine lv_iushr hx hb dJ6_bitCount_0f7a4_17 rfl ?_
  refine lv_ldcw (v := 858993459) hx hb hown (hts (.constant RJ6 266 858993459) (by decide +kernel)) dJ6_bitCount_0f7a4_18 ?_
  refine lv_iand hx hb dJ6_bitCount_0f7a4_21 ?_
  refine lv_iadd hx hb dJ6_bitCount_0f7a4_22 ?_
  refine lv_topi (fun x2 ex2 => ?_)
  refine lv_istore_n (lv' := [(0, .int x2)]) hx hb dJ6_bitCount_0f7a4_23 rfl hl (by decide) rfl (fun ls hl => ?_)
  refine lv_iload_n hx hb dJ6_bitCount_0f7a4_24 rfl (lv_at hl 0 rfl) ?_
  refine lv_iload_n hx hb dJ6_bitCount_0f7a4_25 rfl (lv_at hl 0 rfl) ?_
  refine lv_iconst (v := 4) hx hb dJ6_bitCount_0f7a4_26 (by decide) ?_
  refine lv_iushr hx hb dJ6_bitCount_0f7a4_27 rfl ?_
  refine lv_iadd hx hb dJ6_bitCount_0f7a4_28 ?_
  refine lv_ldcw (v := 252645135) hx hb hown (hts (.constant RJ6 267 252645135) (by decide +kernel)) dJ6_bitCount_0f7a4_29 ?_
  refine lv_iand hx hb dJ6_bitCount_0f7a4_32 ?_
  refine lv_topi (fun x3 ex3 => ?_)
  refine lv_istore_n (lv' := [(0, .int x3)]) hx hb dJ6_bitCount_0f7a4_33 rfl hl (by decide) rfl (fun ls hl => ?_)
  refine lv_iload_n hx hb dJ6_bitCount_0f7a4_34 rfl (lv_at hl 0 rfl) ?_
  refine lv_iload_n hx hb dJ6_bitCount_0f7a4_35 rfl (lv_at hl 0 rfl) ?_
  refine lv_bipush (v := 8) hx hb dJ6_bitCount_0f7a4_36 (by decide) ?_
  refine lv_iushr hx hb dJ6_bitCount_0f7a4_38 rfl ?_
  refine lv_iadd hx hb dJ6_bitCount_0f7a4_39 ?_
  refine lv_istore_n (lv' := [(0, .int (x3 + (x3.toUInt32 >>> ((8 : Int32).toUInt32 &&& Int32.toUInt32 31)).toInt32))]) hx hb dJ6_bitCount_0f7a4_40 rfl hl (by decide) rfl (fun ls hl => ?_)
  refine lv_iload_n hx hb dJ6_bitCount_0f7a4_41 rfl (lv_at hl 0 rfl) ?_
  refine lv_iload_n hx hb dJ6_bitCount_0f7a4_42 rfl (lv_at hl 0 rfl) ?_
  refine lv_bipush (v := 16) hx hb dJ6_bitCount_0f7a4_43 (by decide) ?_
  refine lv_iushr hx hb dJ6_bitCount_0f7a4_45 rfl ?_
  refine lv_iadd hx hb dJ6_bitCount_0f7a4_46 ?_
  refine lv_topi (fun x4 ex4 => ?_)
  refine lv_istore_n (lv' := [(0, .int x4)]) hx hb dJ6_bitCount_0f7a4_47 rfl hl (by decide) rfl (fun ls hl => ?_)
  refine lv_iload_n hx hb dJ6_bitCount_0f7a4_48 rfl (lv_at hl 0 rfl) ?_
  refine lv_bipush (v := 63) hx hb dJ6_bitCount_0f7a4_49 (by decide) ?_
  refine lv_iand hx hb dJ6_bitCount_0f7a4_51 ?_
  have e9 : fJ6_bitCount_0f7a4 p0 = (x4 &&& 63) := by
    unfold fJ6_bitCount_0f7a4
    rw [← ex1]
    unfold fJ6_bitCount_0f7a4_x1
    rw [← ex2]
    unfold fJ6_bitCount_0f7a4_x1_x2
    rw [← ex3]
    unfold fJ6_bitCount_0f7a4_x1_x2_x3
    rw [← ex4]
    rfl
  exact W.iret hx hb hr (fun t ht hW => ⟨_, rfl, e9.symm, ht⟩) (fun _ h9 => absurd h9 List.not_mem_nil) dJ6_bitCount_0f7a4_52

set_option maxHeartbeats 4000000 in
set_option maxRecDepth 100000 in
theorem kJ7_fill_53178 (l : Launch) (D : va_G) (cI cZ cC : ClassId) (hz nz : Nat) (oz : Nat → Int32) (p0 : Int32) (hn : nz < 1000000) {sz : Nat} : Met l yJ7_fill_53178 wsJ7_fill_53178 ({ frames := 0, cells := 0, slots := 0, locals := 0 }) (pW D (tyv cI cZ cC) (wAr cI hz nz oz) sz [.ref hz, .int p0]) (va_Qv (fun (u : (Nat → Int32)) => u = fJ7_fill_53178 nz oz p0) (qW D (fun (u : (Nat → Int32)) => wAr cI hz nz u) (va_A (wAr cI hz nz oz) sz)) (va_A (wAr cI hz nz oz) sz)) 0 0 (va_A (wAr cI hz nz oz) sz) := by
  refine Met.ofW (cc := cJ7_fill_53178) (maxL := 4) (ret := none) (by decide) rfl ?_
  intro p e s m args below meth c s₁ B hml hv
  obtain ⟨rfl, hsz, hP, hK, hN, hD0⟩ := hv
  have hx := B.exec
  have hb := B.bytes
  have hr := B.returns
  have hts := atoms_spec (ws := wsJ7_fill_53178) B.pre
  have hown : s.vm.findClass RJ7 = some m.cls := findClass_of_methodNamed B.named
  have hlocks := B.notSynchronized
  subst hsz
  have hD := hD0.self (sz := s.heap.size)
  generalize hAe : va_A (wAr cI hz nz oz) s.heap.size = A at hD ⊢
  have hA : ∀ q : Nat, s.heap.size ≤ q → A q := fun q h => by rw [← hAe]; exact Or.inr h
  have hS : va_S A s.heap s.heap [] := va_S.rf
  have hP : va_P D vwCl (wAr cI hz nz oz) s.heap := hP
  have hl := lv_entry ([.ref hz, .int p0]) (n := 4) (Nat.le_of_ble_eq_true rfl)
  rw [lg_entry_eq]
  generalize (lg_sl ([.ref hz, .int p0]) ++ List.replicate (4 - (lg_sl ([.ref hz, .int p0])).length) Slot.unset).toArray = ls at hl ⊢
  have hl : lv_has ls 4 [(0, .ref hz), (1, .int p0)] := hl
  have hSF : CallFix p m c cJ7_fill_53178 4 s _ wsJ7_fill_53178 RJ7 := ⟨hx, hb, hml, hown, hts⟩
  refine lv_iconst (v := 0) hx hb dJ7_fill_53178_0 (by decide) ?_
  refine lv_istore_n (lv' := [(2, .int 0), (0, .ref hz), (1, .int p0)]) hx hb dJ7_fill_53178_1 rfl hl (by decide) rfl (fun ls hl => ?_)
  refine lv_aload_n hx hb dJ7_fill_53178_2 rfl (lv_at hl 1 rfl) ?_
  refine va_alen (v := nI nz) hx hb hK hP 0 0 rfl rfl rfl dJ7_fill_53178_3 ?_
  refine lv_istore_n (lv' := [(3, .int (nI nz)), (2, .int 0), (0, .ref hz), (1, .int p0)]) hx hb dJ7_fill_53178_4 rfl hl (by decide) rfl (fun ls hl => ?_)
  refine W_lpW (nz) (fun k9 H9 locs9 ls9 => va_P D vwCl (wAr cI hz nz (fJ7_fill_53178_L5 p0 oz k9)) H9 ∧ va_D A (wAr cI hz nz (fJ7_fill_53178_L5 p0 oz k9)) ∧ va_S A s.heap H9 locs9 ∧ lv_has ls9 4 [(2, .int (nI k9)), (3, .int (nI nz)), (0, .ref hz), (1, .int p0)]) ⟨hP, hD, hS, lv_sub hl [1, 0, 2, 3] rfl⟩ ?_ ?_
  · intro k1 H locs ls hk1 hI9 ih1
    obtain ⟨hP, hD, hS, hl⟩ := hI9
    generalize hs1 : fJ7_fill_53178_L5 p0 oz k1 = y1 at hP hD hl
    obtain ⟨oz1, en1⟩ : ∃ z, z = y1 := ⟨_, rfl⟩
    subst en1
    have hP : va_P D vwCl (wAr cI hz nz oz1) H := hP
    have hD : va_D A (wAr cI hz nz oz1) := hD
    have hl : lv_has ls 4 [(2, .int (nI k1)), (3, .int (nI nz)), (0, .ref hz), (1, .int p0)] := hl
    refine lv_iload_n hx hb dJ7_fill_53178_5 rfl (lv_at hl 0 rfl) ?_
    refine lv_iload_n hx hb dJ7_fill_53178_6 rfl (lv_at hl 1 rfl) ?_
    refine lv_icmp_ge (tgt := 20) hx hb dJ7_fill_53178_7 (by decide) (fun c2 => absurd c2 (nI_ge hk1 (by omega))) (fun c2 => ?_)
    refine lv_aload_n hx hb dJ7_fill_53178_10 rfl (lv_at hl 2 rfl) ?_
    refine lv_iload_n hx hb dJ7_fill_53178_11 rfl (lv_at hl 0 rfl) ?_
    refine lv_iload_n hx hb dJ7_fill_53178_12 rfl (lv_at hl 3 rfl) ?_
    refine va_iast hx hb hK hP hD hS 0 0 rfl rfl (vp_in_nI hk1 (by omega)) dJ7_fill_53178_13 (fun H locs hP hD hS => ?_)
    have hP : va_P D vwCl (wAr cI hz nz (upd oz1 (nI k1).toNatClampNeg p0)) H := hP
    have hD : va_D A (wAr cI hz nz (upd oz1 (nI k1).toNatClampNeg p0)) := hD
    refine lv_iinc (v := ((nI k1) + 1)) (lv' := [(2, .int ((nI k1) + 1)), (3, .int (nI nz)), (0, .ref hz), (1, .int p0)]) hx hb dJ7_fill_53178_14 hl (k := 0) rfl rfl (by decide) rfl (fun ls hl => ?_)
    refine lv_goto (tgt := 5) hx hb dJ7_fill_53178_17 (by decide) ?_
    have e8 : fJ7_fill_53178_L5s p0 k1 oz1 = (upd oz1 (nI k1).toNatClampNeg p0) := by
      rfl
    have e7 : fJ7_fill_53178_L5 p0 oz (k1 + 1) = (upd oz1 (nI k1).toNatClampNeg p0) := by
      show fJ7_fill_53178_L5s p0 k1 (fJ7_fill_53178_L5 p0 oz k1) = _
      rw [hs1]; exact e8
    have hl9 : lv_has ls 4 [(2, .int (nI (k1 + 1))), (3, .int (nI nz)), (0, .ref hz), (1, .int p0)] := by
      rw [nI_succ]; exact lv_sub hl [0, 1, 2, 3] rfl
    exact ih1 H locs ls ⟨by rw [e7]; exact hP, by rw [e7]; exact hD, hS, hl9⟩
  intro H locs ls hI9
  obtain ⟨hP, hD, hS, hl⟩ := hI9
  refine lv_iload_n hx hb dJ7_fill_53178_5 rfl (lv_at hl 0 rfl) ?_
  refine lv_iload_n hx hb dJ7_fill_53178_6 rfl (lv_at hl 1 rfl) ?_
  refine lv_icmp_ge (tgt := 20) hx hb dJ7_fill_53178_7 (by decide) (fun c3 => ?_) (fun c3 => absurd (nI_le (Nat.le_refl _) (by omega)) c3)
  have e9 : fJ7_fill_53178 nz oz p0 = (fJ7_fill_53178_L5 p0 oz (nz)) := by
    rfl
  exact W.vret hx hb hr (fun t ht hW => ⟨⟨(fJ7_fill_53178_L5 p0 oz (nz)), rfl, e9.symm, ⟨by rw [ht]; exact hP, hD⟩⟩, hS.F ht⟩) hS.2.2 dJ7_fill_53178_20

