set_option maxHeartbeats 4000000 in
set_option maxRecDepth 100000 in
theorem kX5_in (l : Launch) (D : va_G) (cI cZ cC : ClassId)  (p0 : Int64) (p1 : Int64) (p2 : Int64)  : Met l yX5_in wsX5_in ({ frames := 0, cells := 0, slots := 0, locals := 0 }) (pR D (tyv cI cZ cC) ([]) [.long p0, .long p1, .long p2]) (vp_Si (fun r => r = fX5_in p0 p1 p2)) 0 0 (fun _ => False) := by
  refine Met.ofW (cc := cX5_in) (maxL := 6) (ret := (some .boolean)) (by decide) rfl ?_
  intro p e s m args below meth c s₁ B hml hv
  obtain ⟨rfl, hP, hK, hN⟩ := hv
  have hx := B.exec
  have hb := B.bytes
  have hr := B.returns
  have hts := atoms_spec (ws := wsX5_in) B.pre
  have hown : s.vm.findClass RX5 = some m.cls := findClass_of_methodNamed B.named
  have hlocks := B.notSynchronized
  have hP : va_P D vwCl ([]) s.heap := hP
  have hl := lv_entry ([.long p0, .long p1, .long p2]) (n := 6) (Nat.le_of_ble_eq_true rfl)
  rw [lg_entry_eq]
  generalize (lg_sl ([.long p0, .long p1, .long p2]) ++ List.replicate (6 - (lg_sl ([.long p0, .long p1, .long p2])).length) Slot.unset).toArray = ls at hl ⊢
  have hl : lv_has ls 6 [(0, .long p0), (2, .long p1), (4, .long p2)] := hl
  have hSF : CallFix p m c cX5_in 6 s _ wsX5_in RX5 := ⟨hx, hb, hml, hown, hts⟩
  refine lv_lload_n hx hb dX5_in_0 rfl (lv_at hl 0 rfl) ?_
  refine lv_lload_n hx hb dX5_in_1 rfl (lv_at hl 1 rfl) ?_
  refine W.lcmp hx hb dX5_in_2 ?_
  refine W_itei (P := (lg_cmp p0 p1) < 0) (a := 0) (b := (if 0 < (lg_cmp p0 p2) then (0 : Int32) else 1)) (J := 18) (ls9 := ls) (rest9 := []) (fun ja2 jb2 => ?_) ?_
  · refine lv_if_lt (tgt := 17) hx hb dX5_in_3 (by decide) (fun c1 => ?_) (fun c1 => ?_)
    · skip
      refine lv_iconst (v := 0) hx hb dX5_in_17 (by decide) ?_
      exact ja2 c1
    · skip
      refine lv_lload_n hx hb dX5_in_6 rfl (lv_at hl 0 rfl) ?_
      refine lv_lload hx hb dX5_in_7 (lv_at hl 2 rfl) ?_
      refine W.lcmp hx hb dX5_in_9 ?_
      refine W_itei (P := 0 < (lg_cmp p0 p2)) (a := 0) (b := 1) (J := 18) (ls9 := ls) (rest9 := []) (fun ja4 jb4 => ?_) ?_
      · refine lv_if_gt (tgt := 17) hx hb dX5_in_10 (by decide) (fun c3 => ?_) (fun c3 => ?_)
        · skip
          refine lv_iconst (v := 0) hx hb dX5_in_17 (by decide) ?_
          exact ja4 c3
        · skip
          refine lv_iconst (v := 1) hx hb dX5_in_13 (by decide) ?_
          refine lv_goto (tgt := 18) hx hb dX5_in_14 (by decide) ?_
          exact jb4 c3
      exact jb2 c1
  have e9 : fX5_in p0 p1 p2 = (if (lg_cmp p0 p1) < 0 then (0 : Int32) else (if 0 < (lg_cmp p0 p2) then (0 : Int32) else 1)) := by
    rfl
  exact W.zret hx hb hr (nar_z (if_z (Or.inl rfl) (if_z (Or.inl rfl) (Or.inr rfl)))) (fun t ht hW => ⟨_, rfl, e9.symm, ht⟩) (fun _ h9 => absurd h9 List.not_mem_nil) dX5_in_18

set_option maxHeartbeats 4000000 in
set_option maxRecDepth 100000 in
theorem kX5_ones (l : Launch) (D : va_G) (cI cZ cC : ClassId)  (p0 : Int32) (h9 : ∃ b : Nat, b < 64 ∧ p0 = nI b) : Met l yX5_ones wsX5_ones ({ frames := 0, cells := 0, slots := 0, locals := 0 }) (pR D (tyv cI cZ cC) ([]) [.int p0]) (vp_Si (fun r => r = fX5_ones p0)) 0 0 (fun _ => False) := by
  refine Met.ofW (cc := cX5_ones) (maxL := 3) (ret := (some .int)) (by decide) rfl ?_
  intro p e s m args below meth c s₁ B hml hv
  obtain ⟨rfl, hP, hK, hN⟩ := hv
  have hx := B.exec
  have hb := B.bytes
  have hr := B.returns
  have hts := atoms_spec (ws := wsX5_ones) B.pre
  have hown : s.vm.findClass RX5 = some m.cls := findClass_of_methodNamed B.named
  have hlocks := B.notSynchronized
  have hP : va_P D vwCl ([]) s.heap := hP
  have hl := lv_entry ([.int p0]) (n := 3) (Nat.le_of_ble_eq_true rfl)
  rw [lg_entry_eq]
  generalize (lg_sl ([.int p0]) ++ List.replicate (3 - (lg_sl ([.int p0])).length) Slot.unset).toArray = ls at hl ⊢
  have hl : lv_has ls 3 [(0, .int p0)] := hl
  have hSF : CallFix p m c cX5_ones 3 s _ wsX5_ones RX5 := ⟨hx, hb, hml, hown, hts⟩
  refine lv_iconst (v := 0) hx hb dX5_ones_0 (by decide) ?_
  refine lv_istore_n (lv' := [(1, .int 0), (0, .int p0)]) hx hb dX5_ones_1 rfl hl (by decide) rfl (fun ls hl => ?_)
  refine lv_iload_n hx hb dX5_ones_2 rfl (lv_at hl 1 rfl) ?_
  refine lv_istore_n (lv' := [(2, .int p0), (1, .int 0), (0, .int p0)]) hx hb dX5_ones_3 rfl hl (by decide) rfl (fun ls hl => ?_)
  refine W_ltR (σ := Int32 × Int32) (64) (fun r9 k9 x9 ls9 => lv_has ls9 3 [(2, .int x9.1), (1, .int x9.2), (0, .int p0)] ∧ fX5_ones_L4 r9 k9 x9.1 x9.2 = fX5_ones_L4 (64) 0 p0 0 ∧ (∃ b : Nat, x9.1 = nI b ∧ b ≤ r9 ∧ b < 1000)) (p0, 0) ⟨lv_sub hl [0, 1, 2] rfl, rfl, (by obtain ⟨b9, hb9, e9⟩ := h9; exact ⟨b9, e9, by omega, by omega⟩)⟩ ?_ ?_
  · intro r1 k1 y1 ls hr1 hI9 ih1
    obtain ⟨x2_1, x1_1⟩ := y1
    obtain ⟨hl, hG1, hi1⟩ := hI9
    have hG1 : fX5_ones_L4 (r1 + 1) k1 x2_1 x1_1 = fX5_ones_L4 (64) 0 p0 0 := hG1
    have hi1 : ∃ b : Nat, x2_1 = nI b ∧ b ≤ (r1 + 1) ∧ b < 1000 := hi1
    have hl : lv_has ls 3 [(2, .int x2_1), (1, .int x1_1), (0, .int p0)] := hl
    have hk1 : k1 < 64 := by omega
    refine lv_iload_n hx hb dX5_ones_4 rfl (lv_at hl 0 rfl) ?_
    refine lv_if_eq (tgt := 20) hx hb dX5_ones_5 (by decide) (fun c2 => ?_) (fun c2 => ?_)
    · skip
      refine lv_iload_n hx hb dX5_ones_20 rfl (lv_at hl 1 rfl) ?_
      have e9 : fX5_ones p0 = x1_1 := by
        refine Eq.trans (b := fX5_ones_L4 (64) 0 p0 0) ?_ ?_
        · rfl
        · rw [← hG1]; simp only [fX5_ones_L4, if_pos c2]
      exact W.iret hx hb hr (fun t ht hW => ⟨_, rfl, e9.symm, ht⟩) (fun _ h9 => absurd h9 List.not_mem_nil) dX5_ones_21
    · skip
      refine lv_iinc (v := (x1_1 + 1)) (lv' := [(1, .int (x1_1 + 1)), (2, .int x2_1), (0, .int p0)]) hx hb dX5_ones_8 hl (k := 1) rfl rfl (by decide) rfl (fun ls hl => ?_)
      refine lv_iload_n hx hb dX5_ones_11 rfl (lv_at hl 1 rfl) ?_
      refine lv_iload_n hx hb dX5_ones_12 rfl (lv_at hl 1 rfl) ?_
      refine lv_iconst (v := 1) hx hb dX5_ones_13 (by decide) ?_
      refine lv_isub hx hb dX5_ones_14 ?_
      refine lv_iand hx hb dX5_ones_15 ?_
      refine lv_istore_n (lv' := [(2, .int (x2_1 &&& (x2_1 - 1))), (1, .int (x1_1 + 1)), (0, .int p0)]) hx hb dX5_ones_16 rfl hl (by decide) rfl (fun ls hl => ?_)
      refine lv_goto (tgt := 4) hx hb dX5_ones_17 (by decide) ?_
      have hl9 : lv_has ls 3 [(2, .int (x2_1 &&& (x2_1 - 1))), (1, .int (x1_1 + 1)), (0, .int p0)] := by
        exact lv_sub hl [0, 1, 2] rfl
      have e8 : fX5_ones_L4 r1 (k1 + 1) (x2_1 &&& (x2_1 - 1)) (x1_1 + 1) = fX5_ones_L4 (64) 0 p0 0 := by
        rw [← hG1]
        simp only [fX5_ones_L4, if_neg c2]
      have h7 : ∃ b : Nat, (x2_1 &&& (x2_1 - 1)) = nI b ∧ b ≤ r1 ∧ b < 1000 := by
        exact on_step hi1 (by with_reducible assumption)
      exact ih1 ((x2_1 &&& (x2_1 - 1)), (x1_1 + 1)) ls ⟨hl9, e8, h7⟩
  intro k1 y1 ls hB1 hI9
  obtain ⟨x2_1, x1_1⟩ := y1
  obtain ⟨hl, hG1, hi1⟩ := hI9
  have hG1 : fX5_ones_L4 0 k1 x2_1 x1_1 = fX5_ones_L4 (64) 0 p0 0 := hG1
  have hi1 : ∃ b : Nat, x2_1 = nI b ∧ b ≤ 0 ∧ b < 1000 := hi1
  have hl : lv_has ls 3 [(2, .int x2_1), (1, .int x1_1), (0, .int p0)] := hl
  refine lv_iload_n hx hb dX5_ones_4 rfl (lv_at hl 0 rfl) ?_
  refine lv_if_eq (tgt := 20) hx hb dX5_ones_5 (by decide) (fun c3 => ?_) (fun c3 => absurd (on_z hi1) c3)
  refine lv_iload_n hx hb dX5_ones_20 rfl (lv_at hl 1 rfl) ?_
  have e9 : fX5_ones p0 = x1_1 := by
    refine Eq.trans (b := fX5_ones_L4 (64) 0 p0 0) ?_ ?_
    · rfl
    · rw [← hG1]; rfl
  exact W.iret hx hb hr (fun t ht hW => ⟨_, rfl, e9.symm, ht⟩) (fun _ h9 => absurd h9 List.not_mem_nil) dX5_ones_21

set_option maxHeartbeats 4000000 in
set_option maxRecDepth 100000 in
theorem kX5_isPerson (l : Launch) (D : va_G) (cI cZ cC : ClassId)  (p0 : Int32)  : Met l yX5_isPerson wsX5_isPerson ({ frames := 1, cells := 0, slots := 0, locals := 25 }) (pR D (tyv cI cZ cC) ([]) [.int p0]) (vp_Si (fun r => r = fX5_isPerson p0)) 0 0 (fun _ => False) := by
  refine Met.ofW (cc := cX5_isPerson) (maxL := 1) (ret := (some .boolean)) (by decide) rfl ?_
  intro p e s m args below meth c s₁ B hml hv
  obtain ⟨rfl, hP, hK, hN⟩ := hv
  have hx := B.exec
  have hb := B.bytes
  have hr := B.returns
  have hts := atoms_spec (ws := wsX5_isPerson) B.pre
  have hown : s.vm.findClass RX5 = some m.cls := findClass_of_methodNamed B.named
  have hlocks := B.notSynchronized
  have hP : va_P D vwCl ([]) s.heap := hP
  have hl := lv_entry ([.int p0]) (n := 1) (Nat.le_of_ble_eq_true rfl)
  rw [lg_entry_eq]
  generalize (lg_sl ([.int p0]) ++ List.replicate (1 - (lg_sl ([.int p0])).length) Slot.unset).toArray = ls at hl ⊢
  have hl : lv_has ls 1 [(0, .int p0)] := hl
  have hSF : CallFix p m c cX5_isPerson 1 s _ wsX5_isPerson RX5 := ⟨hx, hb, hml, hown, hts⟩
  refine lv_iload_n hx hb dX5_isPerson_0 rfl (lv_at hl 0 rfl) ?_
  refine lv_i2l hx hb dX5_isPerson_1 rfl ?_
  refine lv_lconst (v := 0) hx hb dX5_isPerson_2 (by decide) ?_
  refine lv_ldc2 (v := 5) hx hb hown (hts (.constantLong RX5 51 5) (by decide +kernel)) dX5_isPerson_3 ?_
  refine rcSi (As := [.long p0.toInt64, .long 0, .long 5]) (rest := []) hSF (kX5_in l D cI cZ cC p0.toInt64 0 5) (va_cwS 3 hts gX5_isPerson_X5_in rfl rfl rfl (by decide +kernel) ⟨Nat.le_of_ble_eq_true rfl, Nat.le_of_ble_eq_true rfl⟩) (hP.sub [] rfl) hK hN rfl rfl hl.1 (Nat.le_of_ble_eq_true rfl) dX5_isPerson_6 ⟨Nat.zero_le _, Nat.zero_le _⟩ ?_
  have e9 : fX5_isPerson p0 = (fX5_in p0.toInt64 0 5) := by
    rfl
  exact W.zret hx hb hr (nar_z (zX5_in p0.toInt64 0 5)) (fun t ht hW => ⟨_, rfl, e9.symm, ht⟩) (fun _ h9 => absurd h9 List.not_mem_nil) dX5_isPerson_9

set_option maxHeartbeats 4000000 in
set_option maxRecDepth 100000 in
theorem kX5_isPlace (l : Launch) (D : va_G) (cI cZ cC : ClassId)  (p0 : Int32)  : Met l yX5_isPlace wsX5_isPlace ({ frames := 1, cells := 0, slots := 0, locals := 25 }) (pR D (tyv cI cZ cC) ([]) [.int p0]) (vp_Si (fun r => r = fX5_isPlace p0)) 0 0 (fun _ => False) := by
  refine Met.ofW (cc := cX5_isPlace) (maxL := 1) (ret := (some .boolean)) (by decide) rfl ?_
  intro p e s m args below meth c s₁ B hml hv
  obtain ⟨rfl, hP, hK, hN⟩ := hv
  have hx := B.exec
  have hb := B.bytes
  have hr := B.returns
  have hts := atoms_spec (ws := wsX5_isPlace) B.pre
  have hown : s.vm.findClass RX5 = some m.cls := findClass_of_methodNamed B.named
  have hlocks := B.notSynchronized
  have hP : va_P D vwCl ([]) s.heap := hP
  have hl := lv_entry ([.int p0]) (n := 1) (Nat.le_of_ble_eq_true rfl)
  rw [lg_entry_eq]
  generalize (lg_sl ([.int p0]) ++ List.replicate (1 - (lg_sl ([.int p0])).length) Slot.unset).toArray = ls at hl ⊢
  have hl : lv_has ls 1 [(0, .int p0)] := hl
  have hSF : CallFix p m c cX5_isPlace 1 s _ wsX5_isPlace RX5 := ⟨hx, hb, hml, hown, hts⟩
  refine lv_iload_n hx hb dX5_isPlace_0 rfl (lv_at hl 0 rfl) ?_
  refine lv_i2l hx hb dX5_isPlace_1 rfl ?_
  refine lv_lconst (v := 0) hx hb dX5_isPlace_2 (by decide) ?_
  refine lv_ldc2 (v := 9) hx hb hown (hts (.constantLong RX5 57 9) (by decide +kernel)) dX5_isPlace_3 ?_
  refine rcSi (As := [.long p0.toInt64, .long 0, .long 9]) (rest := []) hSF (kX5_in l D cI cZ cC p0.toInt64 0 9) (va_cwS 3 hts gX5_isPlace_X5_in rfl rfl rfl (by decide +kernel) ⟨Nat.le_of_ble_eq_true rfl, Nat.le_of_ble_eq_true rfl⟩) (hP.sub [] rfl) hK hN rfl rfl hl.1 (Nat.le_of_ble_eq_true rfl) dX5_isPlace_6 ⟨Nat.zero_le _, Nat.zero_le _⟩ ?_
  have e9 : fX5_isPlace p0 = (fX5_in p0.toInt64 0 9) := by
    rfl
  exact W.zret hx hb hr (nar_z (zX5_in p0.toInt64 0 9)) (fun t ht hW => ⟨_, rfl, e9.symm, ht⟩) (fun _ h9 => absurd h9 List.not_mem_nil) dX5_isPlace_9

set_option maxHeartbeats 4000000 in
set_option maxRecDepth 100000 in
theorem kX5_isThere (l : Launch) (D : va_G) (cI cZ cC : ClassId) (hm : Nat) (am : Nat → Nat) (om : OV) (p0 : Int32)  : Met l yX5_isThere wsX5_isThere ({ frames := 2, cells := 0, slots := 0, locals := 45 }) (pR D (tyv cI cZ cC) (wX5 cI cZ hm am om) [.ref hm, .int p0]) (vp_Si (fun r => r = fX5_isThere om p0)) 0 0 (fun _ => False) := by
  refine Met.ofW (cc := cX5_isThere) (maxL := 2) (ret := (some .boolean)) (by decide) rfl ?_
  intro p e s m args below meth c s₁ B hml hv
  obtain ⟨rfl, hP, hK, hN⟩ := hv
  have hx := B.exec
  have hb := B.bytes
  have hr := B.returns
  have hts := atoms_spec (ws := wsX5_isThere) B.pre
  have hown : s.vm.findClass RX5 = some m.cls := findClass_of_methodNamed B.named
  have hlocks := B.notSynchronized
  have hP : va_P D vwCl (wX5 cI cZ hm am om) s.heap := hP
  have hl := lv_entry ([.ref hm, .int p0]) (n := 2) (Nat.le_of_ble_eq_true rfl)
  rw [lg_entry_eq]
  generalize (lg_sl ([.ref hm, .int p0]) ++ List.replicate (2 - (lg_sl ([.ref hm, .int p0])).length) Slot.unset).toArray = ls at hl ⊢
  have hl : lv_has ls 2 [(0, .ref hm), (1, .int p0)] := hl
  have hSF : CallFix p m c cX5_isThere 2 s _ wsX5_isThere RX5 := ⟨hx, hb, hml, hown, hts⟩
  have hi5 : ∀ w ∈ wsX50, w ∈ wsX5_isThere := by decide +kernel
  have hf63 : (Cond.fieldLink RX5 63 "UmbrellaVoteModel" "there" "I").before _ s = true := hts _ (by decide +kernel)
  refine lv_iload_n hx hb dX5_isThere_0 rfl (lv_at hl 1 rfl) ?_
  refine rcSi (As := [.int p0]) (rest := []) hSF (kX5_isPerson l D cI cZ cC p0) (va_cwS 1 hts gX5_isThere_X5_isPerson rfl rfl rfl (by decide +kernel) ⟨Nat.le_of_ble_eq_true rfl, Nat.le_of_ble_eq_true rfl⟩) (hP.sub [] rfl) hK hN rfl rfl hl.1 (Nat.le_of_ble_eq_true rfl) dX5_isThere_1 ⟨Nat.zero_le _, Nat.zero_le _⟩ ?_
  refine W_itei (P := (fX5_isPerson p0) = 0) (a := 0) (b := (if (((om.1 0) >>> (p0 &&& 31)) &&& 1) = 1 then (1 : Int32) else 0)) (J := 24) (ls9 := ls) (rest9 := []) (fun ja2 jb2 => ?_) ?_
  · refine lv_if_eq (tgt := 23) hx hb dX5_isThere_4 (by decide) (fun c1 => ?_) (fun c1 => ?_)
    · skip
      refine lv_iconst (v := 0) hx hb dX5_isThere_23 (by decide) ?_
      exact ja2 c1
    · skip
      refine lv_aload_n hx hb dX5_isThere_7 rfl (lv_at hl 0 rfl) ?_
      refine va_get (D := D) (ci := 5) (v := .int (om.1 0)) (C := RX5) (T := TX5) (N := 24) hx hb hts hi5 hown hK hP 0 rfl rfl 0 (by decide) hf63 (fun _ h9 => h9) rfl dX5_isThere_8 ?_
      refine lv_iload_n hx hb dX5_isThere_11 rfl (lv_at hl 1 rfl) ?_
      refine lv_ishr hx hb dX5_isThere_12 ?_
      refine lv_iconst (v := 1) hx hb dX5_isThere_13 (by decide) ?_
      refine lv_iand hx hb dX5_isThere_14 ?_
      refine lv_iconst (v := 1) hx hb dX5_isThere_15 (by decide) ?_
      refine W_itei (P := (((om.1 0) >>> (p0 &&& 31)) &&& 1) = 1) (a := 1) (b := 0) (J := 24) (ls9 := ls) (rest9 := []) (fun ja4 jb4 => ?_) ?_
      · refine lv_icmp_ne (tgt := 23) hx hb dX5_isThere_16 (by decide) (fun c3 => ?_) (fun c3 => ?_)
        · skip
          refine lv_iconst (v := 0) hx hb dX5_isThere_23 (by decide) ?_
          exact jb4 c3
        · skip
          refine lv_iconst (v := 1) hx hb dX5_isThere_19 (by decide) ?_
          refine lv_goto (tgt := 24) hx hb dX5_isThere_20 (by decide) ?_
          exact ja4 c3
      exact jb2 c1
  have e9 : fX5_isThere om p0 = (if (fX5_isPerson p0) = 0 then (0 : Int32) else (if (((om.1 0) >>> (p0 &&& 31)) &&& 1) = 1 then (1 : Int32) else 0)) := by
    rfl
  exact W.zret hx hb hr (nar_z (if_z (Or.inl rfl) (if_z (Or.inr rfl) (Or.inl rfl)))) (fun t ht hW => ⟨_, rfl, e9.symm, ht⟩) (fun _ h9 => absurd h9 List.not_mem_nil) dX5_isThere_24

set_option maxHeartbeats 4000000 in
set_option maxRecDepth 100000 in
theorem kX5_table (l : Launch) (D : va_G) (cI cZ cC : ClassId) (hm : Nat) (am : Nat → Nat) (om : OV) (p0 : Int32) (p1 : Int32)  {sz : Nat} : Met l yX5_table wsX5_table ({ frames := 2, cells := 0, slots := 0, locals := 45 }) (pW D (tyv cI cZ cC) (wX5 cI cZ hm am om) sz [.ref hm, .int p0, .int p1]) (va_Qi (fun r (u : OV) => r = (fX5_table om p0 p1).1 ∧ u = (fX5_table om p0 p1).2) (qW D (fun (u : OV) => wX5 cI cZ hm am u) (va_A (wX5 cI cZ hm am om) sz)) (va_A (wX5 cI cZ hm am om) sz)) 0 0 (va_A (wX5 cI cZ hm am om) sz) := by
  refine Met.ofW (cc := cX5_table) (maxL := 3) (ret := (some .int)) (by decide) rfl ?_
  intro p e s m args below meth c s₁ B hml hv
  obtain ⟨rfl, hsz, hP, hK, hN, hD0⟩ := hv
  have hx := B.exec
  have hb := B.bytes
  have hr := B.returns
  have hts := atoms_spec (ws := wsX5_table) B.pre
  have hown : s.vm.findClass RX5 = some m.cls := findClass_of_methodNamed B.named
  have hlocks := B.notSynchronized
  subst hsz
  have hD := hD0.self (sz := s.heap.size)
  generalize hAe : va_A (wX5 cI cZ hm am om) s.heap.size = A at hD ⊢
  have hA : ∀ q : Nat, s.heap.size ≤ q → A q := fun q h => by rw [← hAe]; exact Or.inr h
  have hS : va_S A s.heap s.heap [] := va_S.rf
  have hP : va_P D vwCl (wX5 cI cZ hm am om) s.heap := hP
  have hl := lv_entry ([.ref hm, .int p0, .int p1]) (n := 3) (Nat.le_of_ble_eq_true rfl)
  rw [lg_entry_eq]
  generalize (lg_sl ([.ref hm, .int p0, .int p1]) ++ List.replicate (3 - (lg_sl ([.ref hm, .int p0, .int p1])).length) Slot.unset).toArray = ls at hl ⊢
  have hl : lv_has ls 3 [(0, .ref hm), (1, .int p0), (2, .int p1)] := hl
  have hSF : CallFix p m c cX5_table 3 s _ wsX5_table RX5 := ⟨hx, hb, hml, hown, hts⟩
  have hi5 : ∀ w ∈ wsX50, w ∈ wsX5_table := by decide +kernel
  have hf79 : (Cond.fieldLink RX5 79 "UmbrellaVoteModel" "tables" "I").before _ s = true := hts _ (by decide +kernel)
  refine lv_iload_n hx hb dX5_table_0 rfl (lv_at hl 1 rfl) ?_
  refine rcSi (As := [.int p0]) (rest := []) hSF (kX5_isPlace l D cI cZ cC p0) (va_cwS 1 hts gX5_table_X5_isPlace rfl rfl rfl (by decide +kernel) ⟨Nat.le_of_ble_eq_true rfl, Nat.le_of_ble_eq_true rfl⟩) (hP.sub [] rfl) hK hN rfl rfl hl.1 (Nat.le_of_ble_eq_true rfl) dX5_table_1 ⟨Nat.zero_le _, Nat.zero_le _⟩ ?_
  refine lv_if_ne (tgt := 9) hx hb dX5_table_4 (by decide) (fun c1 => ?_) (fun c1 => ?_)
  · skip
    refine lv_aload_n hx hb dX5_table_9 rfl (lv_at hl 0 rfl) ?_
    refine lv_iload_n hx hb dX5_table_10 rfl (lv_at hl 2 rfl) ?_
    refine W_itei (P := p1 = 0) (a := ((om.1 5) &&& ((1 <<< (p0 &&& 31)) ^^^ (-1)))) (b := ((om.1 5) ||| (1 <<< (p0 &&& 31)))) (J := 35) (ls9 := ls) (rest9 := [.ref hm]) (fun ja3 jb3 => ?_) ?_
    · refine lv_if_eq (tgt := 25) hx hb dX5_table_11 (by decide) (fun c2 => ?_) (fun c2 => ?_)
      · skip
        refine lv_aload_n hx hb dX5_table_25 rfl (lv_at hl 0 rfl) ?_
        refine va_get (D := D) (ci := 5) (v := .int (om.1 5)) (C := RX5) (T := TX5) (N := 24) hx hb hts hi5 hown hK hP 0 rfl rfl 5 (by decide) hf79 (fun _ h9 => h9) rfl dX5_table_26 ?_
        refine lv_iconst (v := 1) hx hb dX5_table_29 (by decide) ?_
        refine lv_iload_n hx hb dX5_table_30 rfl (lv_at hl 1 rfl) ?_
        refine lv_ishl hx hb dX5_table_31 ?_
        refine lv_iconst (v := (-1)) hx hb dX5_table_32 (by decide) ?_
        refine lv_ixor hx hb dX5_table_33 ?_
        refine lv_iand hx hb dX5_table_34 ?_
        exact ja3 c2
      · skip
        refine lv_aload_n hx hb dX5_table_14 rfl (lv_at hl 0 rfl) ?_
        refine va_get (D := D) (ci := 5) (v := .int (om.1 5)) (C := RX5) (T := TX5) (N := 24) hx hb hts hi5 hown hK hP 0 rfl rfl 5 (by decide) hf79 (fun _ h9 => h9) rfl dX5_table_15 ?_
        refine lv_iconst (v := 1) hx hb dX5_table_18 (by decide) ?_
        refine lv_iload_n hx hb dX5_table_19 rfl (lv_at hl 1 rfl) ?_
        refine lv_ishl hx hb dX5_table_20 ?_
        refine lv_ior hx hb dX5_table_21 ?_
        refine lv_goto (tgt := 35) hx hb dX5_table_22 (by decide) ?_
        exact jb3 c2
    refine va_put (D := D) (ci := 5) (v := .int (if p1 = 0 then ((om.1 5) &&& ((1 <<< (p0 &&& 31)) ^^^ (-1))) else ((om.1 5) ||| (1 <<< (p0 &&& 31))))) (ty := .int) (C := RX5) (T := TX5) (N := 24) hx hb hts hi5 tyX5 tyX5_ok nmX5 hown hK hP hD hS 0 rfl rfl 5 (by decide) hf79 (fun _ h9 => h9) rfl (by decide +kernel) rfl rfl (Nat.le_of_ble_eq_true rfl) dX5_table_35 (fun H locs hP hD hS => ?_)
    have hP : va_P D vwCl (wX5 cI cZ hm am (us om 5 (if p1 = 0 then ((om.1 5) &&& ((1 <<< (p0 &&& 31)) ^^^ (-1))) else ((om.1 5) ||| (1 <<< (p0 &&& 31)))))) H := hP
    have hD : va_D A (wX5 cI cZ hm am (us om 5 (if p1 = 0 then ((om.1 5) &&& ((1 <<< (p0 &&& 31)) ^^^ (-1))) else ((om.1 5) ||| (1 <<< (p0 &&& 31)))))) := hD
    refine lv_iconst (v := 1) hx hb dX5_table_38 (by decide) ?_
    have e9 : fX5_table om p0 p1 = ((1 : Int32), (us om 5 (if p1 = 0 then ((om.1 5) &&& ((1 <<< (p0 &&& 31)) ^^^ (-1))) else ((om.1 5) ||| (1 <<< (p0 &&& 31)))))) := by
      simp only [fX5_table, if_neg c1]
    exact W.iret hx hb hr (fun t ht hW => ⟨⟨_, (us om 5 (if p1 = 0 then ((om.1 5) &&& ((1 <<< (p0 &&& 31)) ^^^ (-1))) else ((om.1 5) ||| (1 <<< (p0 &&& 31))))), rfl, ⟨by rw [e9], by rw [e9]⟩, ⟨by rw [ht]; exact hP, hD⟩⟩, hS.F ht⟩) hS.2.2 dX5_table_39
  · skip
    refine lv_iconst (v := (-1)) hx hb dX5_table_7 (by decide) ?_
    have e9 : fX5_table om p0 p1 = (((-1) : Int32), om) := by
      simp only [fX5_table, if_pos c1]
    exact W.iret hx hb hr (fun t ht hW => ⟨⟨_, om, rfl, ⟨by rw [e9], by rw [e9]⟩, ⟨by rw [ht]; exact hP, hD⟩⟩, hS.F ht⟩) hS.2.2 dX5_table_8

set_option maxHeartbeats 4000000 in
set_option maxRecDepth 100000 in
theorem kX5_set (l : Launch) (D : va_G) (cI cZ cC : ClassId) (hm : Nat) (am : Nat → Nat) (om : OV) (p0 : Int32) (p1 : Int32)  {sz : Nat} : Met l yX5_set wsX5_set ({ frames := 1, cells := 0, slots := 0, locals := 25 }) (pW D (tyv cI cZ cC) (wX5 cI cZ hm am om) sz [.ref hm, .int p0, .int p1]) (va_Qi (fun r (u : OV) => r = (fX5_set om p0 p1).1 ∧ u = (fX5_set om p0 p1).2) (qW D (fun (u : OV) => wX5 cI cZ hm am u) (va_A (wX5 cI cZ hm am om) sz)) (va_A (wX5 cI cZ hm am om) sz)) 0 0 (va_A (wX5 cI cZ hm am om) sz) := by
  refine Met.ofW (cc := cX5_set) (maxL := 4) (ret := (some .int)) (by decide) rfl ?_
  intro p e s m args below meth c s₁ B hml hv
  obtain ⟨rfl, hsz, hP, hK, hN, hD0⟩ := hv
  have hx := B.exec
  have hb := B.bytes
  have hr := B.returns
  have hts := atoms_spec (ws := wsX5_set) B.pre
  have hown : s.vm.findClass RX5 = some m.cls := findClass_of_methodNamed B.named
  have hlocks := B.notSynchronized
  subst hsz
  have hD := hD0.self (sz := s.heap.size)
  generalize hAe : va_A (wX5 cI cZ hm am om) s.heap.size = A at hD ⊢
  have hA : ∀ q : Nat, s.heap.size ≤ q → A q := fun q h => by rw [← hAe]; exact Or.inr h
  have hS : va_S A s.heap s.heap [] := va_S.rf
  have hP : va_P D vwCl (wX5 cI cZ hm am om) s.heap := hP
  have hl := lv_entry ([.ref hm, .int p0, .int p1]) (n := 4) (Nat.le_of_ble_eq_true rfl)
  rw [lg_entry_eq]
  generalize (lg_sl ([.ref hm, .int p0, .int p1]) ++ List.replicate (4 - (lg_sl ([.ref hm, .int p0, .int p1])).length) Slot.unset).toArray = ls at hl ⊢
  have hl : lv_has ls 4 [(0, .ref hm), (1, .int p0), (2, .int p1)] := hl
  have hSF : CallFix p m c cX5_set 4 s _ wsX5_set RX5 := ⟨hx, hb, hml, hown, hts⟩
  have hi5 : ∀ w ∈ wsX50, w ∈ wsX5_set := by decide +kernel
  have hf48 : (Cond.fieldLink RX5 48 "UmbrellaVoteModel" "shade" "I").before _ s = true := hts _ (by decide +kernel)
  have hf44 : (Cond.fieldLink RX5 44 "UmbrellaVoteModel" "spread" "I").before _ s = true := hts _ (by decide +kernel)
  refine lv_iload_n hx hb dX5_set_0 rfl (lv_at hl 1 rfl) ?_
  refine lv_i2l hx hb dX5_set_1 rfl ?_
  refine lv_lconst (v := 0) hx hb dX5_set_2 (by decide) ?_
  refine lv_lconst (v := 1) hx hb dX5_set_3 (by decide) ?_
  refine rcSi (As := [.long p0.toInt64, .long 0, .long 1]) (rest := []) hSF (kX5_in l D cI cZ cC p0.toInt64 0 1) (va_cwS 3 hts gX5_set_X5_in rfl rfl rfl (by decide +kernel) ⟨Nat.le_of_ble_eq_true rfl, Nat.le_of_ble_eq_true rfl⟩) (hP.sub [] rfl) hK hN rfl rfl hl.1 (Nat.le_of_ble_eq_true rfl) dX5_set_4 ⟨Nat.zero_le _, Nat.zero_le _⟩ ?_
  refine lv_if_eq (tgt := 30) hx hb dX5_set_7 (by decide) (fun c1 => ?_) (fun c1 => ?_)
  · skip
    refine lv_bipush (v := (-2)) hx hb dX5_set_30 (by decide) ?_
    have e9 : fX5_set om p0 p1 = (((-2) : Int32), om) := by
      simp only [fX5_set, if_pos c1]
    exact W.iret hx hb hr (fun t ht hW => ⟨⟨_, om, rfl, ⟨by rw [e9], by rw [e9]⟩, ⟨by rw [ht]; exact hP, hD⟩⟩, hS.F ht⟩) hS.2.2 dX5_set_32
  · skip
    refine lv_iload_n hx hb dX5_set_10 rfl (lv_at hl 2 rfl) ?_
    refine lv_i2l hx hb dX5_set_11 rfl ?_
    refine lv_iload_n hx hb dX5_set_12 rfl (lv_at hl 1 rfl) ?_
    refine W_itel (P := p0 = 0) (a := 1) (b := 0) (J := 21) (ls9 := ls) (rest9 := [.long p1.toInt64]) (fun ja3 jb3 => ?_) ?_
    · refine lv_if_ne (tgt := 20) hx hb dX5_set_13 (by decide) (fun c2 => ?_) (fun c2 => ?_)
      · skip
        refine lv_lconst (v := 0) hx hb dX5_set_20 (by decide) ?_
        exact jb3 c2
      · skip
        refine lv_lconst (v := 1) hx hb dX5_set_16 (by decide) ?_
        refine lv_goto (tgt := 21) hx hb dX5_set_17 (by decide) ?_
        exact ja3 c2
    refine lv_ldc2 (v := 9) hx hb hown (hts (.constantLong RX5 57 9) (by decide +kernel)) dX5_set_21 ?_
    refine rcSi (As := [.long p1.toInt64, .long (if p0 = 0 then (1 : Int64) else 0), .long 9]) (rest := []) hSF (kX5_in l D cI cZ cC p1.toInt64 (if p0 = 0 then (1 : Int64) else 0) 9) (va_cwS 3 hts gX5_set_X5_in rfl rfl rfl (by decide +kernel) ⟨Nat.le_of_ble_eq_true rfl, Nat.le_of_ble_eq_true rfl⟩) (hP.sub [] rfl) hK hN rfl rfl hl.1 (Nat.le_of_ble_eq_true rfl) dX5_set_24 ⟨Nat.zero_le _, Nat.zero_le _⟩ ?_
    refine lv_if_ne (tgt := 33) hx hb dX5_set_27 (by decide) (fun c4 => ?_) (fun c4 => ?_)
    · skip
      refine lv_iload_n hx hb dX5_set_33 rfl (lv_at hl 1 rfl) ?_
      refine W_itei (P := p0 = 0) (a := (om.1 6)) (b := (om.1 7)) (J := 48) (ls9 := ls) (rest9 := []) (fun ja6 jb6 => ?_) ?_
      · refine lv_if_ne (tgt := 44) hx hb dX5_set_34 (by decide) (fun c5 => ?_) (fun c5 => ?_)
        · skip
          refine lv_aload_n hx hb dX5_set_44 rfl (lv_at hl 0 rfl) ?_
          refine va_get (D := D) (ci := 5) (v := .int (om.1 7)) (C := RX5) (T := TX5) (N := 24) hx hb hts hi5 hown hK hP 0 rfl rfl 7 (by decide) hf48 (fun _ h9 => h9) rfl dX5_set_45 ?_
          exact jb6 c5
        · skip
          refine lv_aload_n hx hb dX5_set_37 rfl (lv_at hl 0 rfl) ?_
          refine va_get (D := D) (ci := 5) (v := .int (om.1 6)) (C := RX5) (T := TX5) (N := 24) hx hb hts hi5 hown hK hP 0 rfl rfl 6 (by decide) hf44 (fun _ h9 => h9) rfl dX5_set_38 ?_
          refine lv_goto (tgt := 48) hx hb dX5_set_41 (by decide) ?_
          exact ja6 c5
      refine lv_istore_n (lv' := [(3, .int (if p0 = 0 then (om.1 6) else (om.1 7))), (0, .ref hm), (1, .int p0), (2, .int p1)]) hx hb dX5_set_48 rfl hl (by decide) rfl (fun ls hl => ?_)
      refine lv_aload_n hx hb dX5_set_49 rfl (lv_at hl 1 rfl) ?_
      refine lv_iload_n hx hb dX5_set_50 rfl (lv_at hl 2 rfl) ?_
      refine W_itei (P := p0 = 0) (a := p1) (b := (om.1 6)) (J := 62) (ls9 := ls) (rest9 := [.ref hm]) (fun ja8 jb8 => ?_) ?_
      · refine lv_if_ne (tgt := 58) hx hb dX5_set_51 (by decide) (fun c7 => ?_) (fun c7 => ?_)
        · skip
          refine lv_aload_n hx hb dX5_set_58 rfl (lv_at hl 1 rfl) ?_
          refine va_get (D := D) (ci := 5) (v := .int (om.1 6)) (C := RX5) (T := TX5) (N := 24) hx hb hts hi5 hown hK hP 0 rfl rfl 6 (by decide) hf44 (fun _ h9 => h9) rfl dX5_set_59 ?_
          exact jb8 c7
        · skip
          refine lv_iload_n hx hb dX5_set_54 rfl (lv_at hl 3 rfl) ?_
          refine lv_goto (tgt := 62) hx hb dX5_set_55 (by decide) ?_
          exact ja8 c7
      refine va_put (D := D) (ci := 5) (v := .int (if p0 = 0 then p1 else (om.1 6))) (ty := .int) (C := RX5) (T := TX5) (N := 24) hx hb hts hi5 tyX5 tyX5_ok nmX5 hown hK hP hD hS 0 rfl rfl 6 (by decide) hf44 (fun _ h9 => h9) rfl (by decide +kernel) rfl rfl (Nat.le_of_ble_eq_true rfl) dX5_set_62 (fun H locs hP hD hS => ?_)
      have hP : va_P D vwCl (wX5 cI cZ hm am (us om 6 (if p0 = 0 then p1 else (om.1 6)))) H := hP
      have hD : va_D A (wX5 cI cZ hm am (us om 6 (if p0 = 0 then p1 else (om.1 6)))) := hD
      refine lv_aload_n hx hb dX5_set_65 rfl (lv_at hl 1 rfl) ?_
      refine lv_iload_n hx hb dX5_set_66 rfl (lv_at hl 2 rfl) ?_
      refine lv_iconst (v := 1) hx hb dX5_set_67 (by decide) ?_
      refine W_itei (P := p0 = 1) (a := p1) (b := (om.1 7)) (J := 79) (ls9 := ls) (rest9 := [.ref hm]) (fun ja10 jb10 => ?_) ?_
      · refine lv_icmp_ne (tgt := 75) hx hb dX5_set_68 (by decide) (fun c9 => ?_) (fun c9 => ?_)
        · skip
          refine lv_aload_n hx hb dX5_set_75 rfl (lv_at hl 1 rfl) ?_
          refine va_get (D := D) (ci := 5) (v := .int (om.1 7)) (C := RX5) (T := TX5) (N := 24) hx hb hts hi5 hown hK hP 0 rfl rfl 7 (by decide) hf48 (fun _ h9 => h9) rfl dX5_set_76 ?_
          exact jb10 c9
        · skip
          refine lv_iload_n hx hb dX5_set_71 rfl (lv_at hl 3 rfl) ?_
          refine lv_goto (tgt := 79) hx hb dX5_set_72 (by decide) ?_
          exact ja10 c9
      refine va_put (D := D) (ci := 5) (v := .int (if p0 = 1 then p1 else (om.1 7))) (ty := .int) (C := RX5) (T := TX5) (N := 24) hx hb hts hi5 tyX5 tyX5_ok nmX5 hown hK hP hD hS 0 rfl rfl 7 (by decide) hf48 (fun _ h9 => h9) rfl (by decide +kernel) rfl rfl (Nat.le_of_ble_eq_true rfl) dX5_set_79 (fun H locs hP hD hS => ?_)
      rw [sw_m_m_s7] at hP hD
      have hP : va_P D vwCl (wX5 cI cZ hm am (us (us om 6 (if p0 = 0 then p1 else (om.1 6))) 7 (if p0 = 1 then p1 else (om.1 7)))) H := hP
      have hD : va_D A (wX5 cI cZ hm am (us (us om 6 (if p0 = 0 then p1 else (om.1 6))) 7 (if p0 = 1 then p1 else (om.1 7)))) := hD
      refine lv_iload_n hx hb dX5_set_82 rfl (lv_at hl 0 rfl) ?_
      have e9 : fX5_set om p0 p1 = ((if p0 = 0 then (om.1 6) else (om.1 7)), (us (us om 6 (if p0 = 0 then p1 else (om.1 6))) 7 (if p0 = 1 then p1 else (om.1 7)))) := by
        simp only [fX5_set, if_neg c1, if_neg c4]
      exact W.iret hx hb hr (fun t ht hW => ⟨⟨_, (us (us om 6 (if p0 = 0 then p1 else (om.1 6))) 7 (if p0 = 1 then p1 else (om.1 7))), rfl, ⟨by rw [e9], by rw [e9]⟩, ⟨by rw [ht]; exact hP, hD⟩⟩, hS.F ht⟩) hS.2.2 dX5_set_83
    · skip
      refine lv_bipush (v := (-2)) hx hb dX5_set_30 (by decide) ?_
      have e9 : fX5_set om p0 p1 = (((-2) : Int32), om) := by
        simp only [fX5_set, if_neg c1, if_pos c4]
      exact W.iret hx hb hr (fun t ht hW => ⟨⟨_, om, rfl, ⟨by rw [e9], by rw [e9]⟩, ⟨by rw [ht]; exact hP, hD⟩⟩, hS.F ht⟩) hS.2.2 dX5_set_32

set_option maxHeartbeats 4000000 in
set_option maxRecDepth 100000 in
theorem kX5_say (l : Launch) (D : va_G) (cI cZ cC : ClassId) (hm : Nat) (am : Nat → Nat) (om : OV) (p0 : Int32) (hn : (om.1 13).toNatClampNeg ≤ 40 ∧ om.1 13 = nI (om.1 13).toNatClampNeg) {sz : Nat} : Met l yX5_say wsX5_say ({ frames := 1, cells := 0, slots := 0, locals := 25 }) (pW D (tyv cI cZ cC) (wX5 cI cZ hm am om) sz [.ref hm, .int p0]) (va_Qi (fun r (u : OV) => r = (fX5_say om p0).1 ∧ u = (fX5_say om p0).2) (qW D (fun (u : OV) => wX5 cI cZ hm am u) (va_A (wX5 cI cZ hm am om) sz)) (va_A (wX5 cI cZ hm am om) sz)) 0 0 (va_A (wX5 cI cZ hm am om) sz) := by
  refine Met.ofW (cc := cX5_say) (maxL := 2) (ret := (some .int)) (by decide) rfl ?_
  intro p e s m args below meth c s₁ B hml hv
  obtain ⟨rfl, hsz, hP, hK, hN, hD0⟩ := hv
  have hx := B.exec
  have hb := B.bytes
  have hr := B.returns
  have hts := atoms_spec (ws := wsX5_say) B.pre
  have hown : s.vm.findClass RX5 = some m.cls := findClass_of_methodNamed B.named
  have hlocks := B.notSynchronized
  subst hsz
  have hD := hD0.self (sz := s.heap.size)
  generalize hAe : va_A (wX5 cI cZ hm am om) s.heap.size = A at hD ⊢
  have hA : ∀ q : Nat, s.heap.size ≤ q → A q := fun q h => by rw [← hAe]; exact Or.inr h
  have hS : va_S A s.heap s.heap [] := va_S.rf
  have hP : va_P D vwCl (wX5 cI cZ hm am om) s.heap := hP
  have hl := lv_entry ([.ref hm, .int p0]) (n := 2) (Nat.le_of_ble_eq_true rfl)
  rw [lg_entry_eq]
  generalize (lg_sl ([.ref hm, .int p0]) ++ List.replicate (2 - (lg_sl ([.ref hm, .int p0])).length) Slot.unset).toArray = ls at hl ⊢
  have hl : lv_has ls 2 [(0, .ref hm), (1, .int p0)] := hl
  have hSF : CallFix p m c cX5_say 2 s _ wsX5_say RX5 := ⟨hx, hb, hml, hown, hts⟩
  have hi5 : ∀ w ∈ wsX50, w ∈ wsX5_say := by decide +kernel
  have hf86 : (Cond.fieldLink RX5 86 "UmbrellaVoteModel" "padMany" "I").before _ s = true := hts _ (by decide +kernel)
  have hf28 : (Cond.fieldLink RX5 28 "UmbrellaVoteModel" "pad" "[I").before _ s = true := hts _ (by decide +kernel)
  refine lv_iload_n hx hb dX5_say_0 rfl (lv_at hl 1 rfl) ?_
  refine lv_i2l hx hb dX5_say_1 rfl ?_
  refine lv_ldc2 (v := 33) hx hb hown (hts (.constantLong RX5 82 33) (by decide +kernel)) dX5_say_2 ?_
  refine lv_ldc2 (v := 126) hx hb hown (hts (.constantLong RX5 84 126) (by decide +kernel)) dX5_say_5 ?_
  refine rcSi (As := [.long p0.toInt64, .long 33, .long 126]) (rest := []) hSF (kX5_in l D cI cZ cC p0.toInt64 33 126) (va_cwS 3 hts gX5_say_X5_in rfl rfl rfl (by decide +kernel) ⟨Nat.le_of_ble_eq_true rfl, Nat.le_of_ble_eq_true rfl⟩) (hP.sub [] rfl) hK hN rfl rfl hl.1 (Nat.le_of_ble_eq_true rfl) dX5_say_8 ⟨Nat.zero_le _, Nat.zero_le _⟩ ?_
  refine lv_if_ne (tgt := 17) hx hb dX5_say_11 (by decide) (fun c1 => ?_) (fun c1 => ?_)
  · skip
    refine lv_aload_n hx hb dX5_say_17 rfl (lv_at hl 0 rfl) ?_
    refine va_get (D := D) (ci := 5) (v := .int (om.1 13)) (C := RX5) (T := TX5) (N := 24) hx hb hts hi5 hown hK hP 0 rfl rfl 13 (by decide) hf86 (fun _ h9 => h9) rfl dX5_say_18 ?_
    refine lv_bipush (v := 40) hx hb dX5_say_21 (by decide) ?_
    refine lv_icmp_ne (tgt := 29) hx hb dX5_say_23 (by decide) (fun c2 => ?_) (fun c2 => ?_)
    · skip
      refine lv_aload_n hx hb dX5_say_29 rfl (lv_at hl 0 rfl) ?_
      refine va_get (D := D) (ci := 5) (v := .ref (am 12)) (C := RX5) (T := TX5) (N := 24) hx hb hts hi5 hown hK hP 0 rfl rfl 12 (by decide) hf28 (fun _ h9 => h9) rfl dX5_say_30 ?_
      refine lv_aload_n hx hb dX5_say_33 rfl (lv_at hl 0 rfl) ?_
      refine va_get (D := D) (ci := 5) (v := .int (om.1 13)) (C := RX5) (T := TX5) (N := 24) hx hb hts hi5 hown hK hP 0 rfl rfl 13 (by decide) hf86 (fun _ h9 => h9) rfl dX5_say_34 ?_
      refine lv_iload_n hx hb dX5_say_37 rfl (lv_at hl 1 rfl) ?_
      refine va_iast hx hb hK hP hD hS 7 0 rfl rfl (sy_in hn (by with_reducible assumption)) dX5_say_38 (fun H locs hP hD hS => ?_)
      have hP : va_P D vwCl (wX5 cI cZ hm am (ua om 12 (om.1 13).toNatClampNeg p0)) H := hP
      have hD : va_D A (wX5 cI cZ hm am (ua om 12 (om.1 13).toNatClampNeg p0)) := hD
      refine lv_aload_n hx hb dX5_say_39 rfl (lv_at hl 0 rfl) ?_
      refine lv_dup hx hb dX5_say_40 rfl ?_
      refine va_get (D := D) (ci := 5) (v := .int (om.1 13)) (C := RX5) (T := TX5) (N := 24) hx hb hts hi5 hown hK hP 0 rfl rfl 13 (by decide) hf86 (fun _ h9 => h9) rfl dX5_say_41 ?_
      refine lv_iconst (v := 1) hx hb dX5_say_44 (by decide) ?_
      refine lv_iadd hx hb dX5_say_45 ?_
      refine va_put (D := D) (ci := 5) (v := .int ((om.1 13) + 1)) (ty := .int) (C := RX5) (T := TX5) (N := 24) hx hb hts hi5 tyX5 tyX5_ok nmX5 hown hK hP hD hS 0 rfl rfl 13 (by decide) hf86 (fun _ h9 => h9) rfl (by decide +kernel) rfl rfl (Nat.le_of_ble_eq_true rfl) dX5_say_46 (fun H locs hP hD hS => ?_)
      rw [sw_m_m_s13] at hP hD
      have hP : va_P D vwCl (wX5 cI cZ hm am (us (ua om 12 (om.1 13).toNatClampNeg p0) 13 ((om.1 13) + 1))) H := hP
      have hD : va_D A (wX5 cI cZ hm am (us (ua om 12 (om.1 13).toNatClampNeg p0) 13 ((om.1 13) + 1))) := hD
      refine lv_aload_n hx hb dX5_say_49 rfl (lv_at hl 0 rfl) ?_
      refine va_get (D := D) (ci := 5) (v := .int ((om.1 13) + 1)) (C := RX5) (T := TX5) (N := 24) hx hb hts hi5 hown hK hP 0 rfl rfl 13 (by decide) hf86 (fun _ h9 => h9) rfl dX5_say_50 ?_
      have e9 : fX5_say om p0 = (((om.1 13) + 1), (us (ua om 12 (om.1 13).toNatClampNeg p0) 13 ((om.1 13) + 1))) := by
        simp only [fX5_say, if_neg c1, if_neg c2]
      exact W.iret hx hb hr (fun t ht hW => ⟨⟨_, (us (ua om 12 (om.1 13).toNatClampNeg p0) 13 ((om.1 13) + 1)), rfl, ⟨by rw [e9], by rw [e9]⟩, ⟨by rw [ht]; exact hP, hD⟩⟩, hS.F ht⟩) hS.2.2 dX5_say_53
    · skip
      refine lv_bipush (v := (-4)) hx hb dX5_say_26 (by decide) ?_
      have e9 : fX5_say om p0 = (((-4) : Int32), om) := by
        simp only [fX5_say, if_neg c1, if_pos c2]
      exact W.iret hx hb hr (fun t ht hW => ⟨⟨_, om, rfl, ⟨by rw [e9], by rw [e9]⟩, ⟨by rw [ht]; exact hP, hD⟩⟩, hS.F ht⟩) hS.2.2 dX5_say_28
  · skip
    refine lv_bipush (v := (-2)) hx hb dX5_say_14 (by decide) ?_
    have e9 : fX5_say om p0 = (((-2) : Int32), om) := by
      simp only [fX5_say, if_pos c1]
    exact W.iret hx hb hr (fun t ht hW => ⟨⟨_, om, rfl, ⟨by rw [e9], by rw [e9]⟩, ⟨by rw [ht]; exact hP, hD⟩⟩, hS.F ht⟩) hS.2.2 dX5_say_16

set_option maxHeartbeats 4000000 in
set_option maxRecDepth 100000 in
theorem kX5_wipe (l : Launch) (D : va_G) (cI cZ cC : ClassId) (hm : Nat) (am : Nat → Nat) (om : OV)   {sz : Nat} : Met l yX5_wipe wsX5_wipe ({ frames := 0, cells := 0, slots := 0, locals := 0 }) (pW D (tyv cI cZ cC) (wX5 cI cZ hm am om) sz [.ref hm]) (va_Qi (fun r (u : OV) => r = (fX5_wipe om).1 ∧ u = (fX5_wipe om).2) (qW D (fun (u : OV) => wX5 cI cZ hm am u) (va_A (wX5 cI cZ hm am om) sz)) (va_A (wX5 cI cZ hm am om) sz)) 0 0 (va_A (wX5 cI cZ hm am om) sz) := by
  refine Met.ofW (cc := cX5_wipe) (maxL := 2) (ret := (some .int)) (by decide) rfl ?_
  intro p e s m args below meth c s₁ B hml hv
  obtain ⟨rfl, hsz, hP, hK, hN, hD0⟩ := hv
  have hx := B.exec
  have hb := B.bytes
  have hr := B.returns
  have hts := atoms_spec (ws := wsX5_wipe) B.pre
  have hown : s.vm.findClass RX5 = some m.cls := findClass_of_methodNamed B.named
  have hlocks := B.notSynchronized
  subst hsz
  have hD := hD0.self (sz := s.heap.size)
  generalize hAe : va_A (wX5 cI cZ hm am om) s.heap.size = A at hD ⊢
  have hA : ∀ q : Nat, s.heap.size ≤ q → A q := fun q h => by rw [← hAe]; exact Or.inr h
  have hS : va_S A s.heap s.heap [] := va_S.rf
  have hP : va_P D vwCl (wX5 cI cZ hm am om) s.heap := hP
  have hl := lv_entry ([.ref hm]) (n := 2) (Nat.le_of_ble_eq_true rfl)
  rw [lg_entry_eq]
  generalize (lg_sl ([.ref hm]) ++ List.replicate (2 - (lg_sl ([.ref hm])).length) Slot.unset).toArray = ls at hl ⊢
  have hl : lv_has ls 2 [(0, .ref hm)] := hl
  have hSF : CallFix p m c cX5_wipe 2 s _ wsX5_wipe RX5 := ⟨hx, hb, hml, hown, hts⟩
  have hi5 : ∀ w ∈ wsX50, w ∈ wsX5_wipe := by decide +kernel
  have hf86 : (Cond.fieldLink RX5 86 "UmbrellaVoteModel" "padMany" "I").before _ s = true := hts _ (by decide +kernel)
  refine lv_aload_n hx hb dX5_wipe_0 rfl (lv_at hl 0 rfl) ?_
  refine va_get (D := D) (ci := 5) (v := .int (om.1 13)) (C := RX5) (T := TX5) (N := 24) hx hb hts hi5 hown hK hP 0 rfl rfl 13 (by decide) hf86 (fun _ h9 => h9) rfl dX5_wipe_1 ?_
  refine lv_istore_n (lv' := [(1, .int (om.1 13)), (0, .ref hm)]) hx hb dX5_wipe_4 rfl hl (by decide) rfl (fun ls hl => ?_)
  refine lv_aload_n hx hb dX5_wipe_5 rfl (lv_at hl 1 rfl) ?_
  refine lv_iconst (v := 0) hx hb dX5_wipe_6 (by decide) ?_
  refine va_put (D := D) (ci := 5) (v := .int 0) (ty := .int) (C := RX5) (T := TX5) (N := 24) hx hb hts hi5 tyX5 tyX5_ok nmX5 hown hK hP hD hS 0 rfl rfl 13 (by decide) hf86 (fun _ h9 => h9) rfl (by decide +kernel) rfl rfl (Nat.le_of_ble_eq_true rfl) dX5_wipe_7 (fun H locs hP hD hS => ?_)
  have hP : va_P D vwCl (wX5 cI cZ hm am (us om 13 0)) H := hP
  have hD : va_D A (wX5 cI cZ hm am (us om 13 0)) := hD
  refine lv_iload_n hx hb dX5_wipe_10 rfl (lv_at hl 0 rfl) ?_
  have e9 : fX5_wipe om = ((om.1 13), (us om 13 0)) := by
    rfl
  exact W.iret hx hb hr (fun t ht hW => ⟨⟨_, (us om 13 0), rfl, ⟨by rw [e9], by rw [e9]⟩, ⟨by rw [ht]; exact hP, hD⟩⟩, hS.F ht⟩) hS.2.2 dX5_wipe_11

set_option maxHeartbeats 4000000 in
set_option maxRecDepth 100000 in
theorem kX5_canStand (l : Launch) (D : va_G) (cI cZ cC : ClassId)  (p0 : Int32) (p1 : Int32)  : Met l yX5_canStand wsX5_canStand ({ frames := 1, cells := 0, slots := 0, locals := 25 }) (pR D (tyv cI cZ cC) ([]) [.int p0, .int p1]) (vp_Si (fun r => r = fX5_canStand p0 p1)) 0 0 (fun _ => False) := by
  refine Met.ofW (cc := cX5_canStand) (maxL := 3) (ret := (some .boolean)) (by decide) rfl ?_
  intro p e s m args below meth c s₁ B hml hv
  obtain ⟨rfl, hP, hK, hN⟩ := hv
  have hx := B.exec
  have hb := B.bytes
  have hr := B.returns
  have hts := atoms_spec (ws := wsX5_canStand) B.pre
  have hown : s.vm.findClass RX5 = some m.cls := findClass_of_methodNamed B.named
  have hlocks := B.notSynchronized
  have hP : va_P D vwCl ([]) s.heap := hP
  have hl := lv_entry ([.int p0, .int p1]) (n := 3) (Nat.le_of_ble_eq_true rfl)
  rw [lg_entry_eq]
  generalize (lg_sl ([.int p0, .int p1]) ++ List.replicate (3 - (lg_sl ([.int p0, .int p1])).length) Slot.unset).toArray = ls at hl ⊢
  have hl : lv_has ls 3 [(0, .int p0), (1, .int p1)] := hl
  have hSF : CallFix p m c cX5_canStand 3 s _ wsX5_canStand RX5 := ⟨hx, hb, hml, hown, hts⟩
  refine lv_iload_n hx hb dX5_canStand_0 rfl (lv_at hl 0 rfl) ?_
  refine lv_i2l hx hb dX5_canStand_1 rfl ?_
  refine lv_ldc2 (v := 48) hx hb hown (hts (.constantLong RX5 89 48) (by decide +kernel)) dX5_canStand_2 ?_
  refine lv_ldc2 (v := 57) hx hb hown (hts (.constantLong RX5 91 57) (by decide +kernel)) dX5_canStand_5 ?_
  refine rcSi (As := [.long p0.toInt64, .long 48, .long 57]) (rest := []) hSF (kX5_in l D cI cZ cC p0.toInt64 48 57) (va_cwS 3 hts gX5_canStand_X5_in rfl rfl rfl (by decide +kernel) ⟨Nat.le_of_ble_eq_true rfl, Nat.le_of_ble_eq_true rfl⟩) (hP.sub [] rfl) hK hN rfl rfl hl.1 (Nat.le_of_ble_eq_true rfl) dX5_canStand_8 ⟨Nat.zero_le _, Nat.zero_le _⟩ ?_
  refine lv_istore_n (lv' := [(2, .int (fX5_in p0.toInt64 48 57)), (0, .int p0), (1, .int p1)]) hx hb dX5_canStand_11 rfl hl (by decide) rfl (fun ls hl => ?_)
  refine lv_iload_n hx hb dX5_canStand_12 rfl (lv_at hl 2 rfl) ?_
  refine lv_if_ne (tgt := 50) hx hb dX5_canStand_13 (by decide) (fun c1 => ?_) (fun c1 => ?_)
  · skip
    refine lv_iload_n hx hb dX5_canStand_50 rfl (lv_at hl 2 rfl) ?_
    refine lv_bipush (v := 126) hx hb dX5_canStand_51 (by decide) ?_
    refine W_itei (P := p1 = 126) (a := (fX5_in p0.toInt64 65 70)) (b := (if (fX5_in p0.toInt64 48 57) = 0 then (0 : Int32) else (if p1 = 33 then (1 : Int32) else (if p0 = 48 then (0 : Int32) else 1)))) (J := 91) (ls9 := ls) (rest9 := []) (fun ja3 jb3 => ?_) ?_
    · refine lv_icmp_ne (tgt := 70) hx hb dX5_canStand_53 (by decide) (fun c2 => ?_) (fun c2 => ?_)
      · skip
        refine lv_iload_n hx hb dX5_canStand_70 rfl (lv_at hl 0 rfl) ?_
        refine W_itei (P := (fX5_in p0.toInt64 48 57) = 0) (a := 0) (b := (if p1 = 33 then (1 : Int32) else (if p0 = 48 then (0 : Int32) else 1))) (J := 91) (ls9 := ls) (rest9 := []) (fun ja5 jb5 => ?_) ?_
        · refine lv_if_eq (tgt := 90) hx hb dX5_canStand_71 (by decide) (fun c4 => ?_) (fun c4 => ?_)
          · skip
            refine lv_iconst (v := 0) hx hb dX5_canStand_90 (by decide) ?_
            exact ja5 c4
          · skip
            refine lv_iload_n hx hb dX5_canStand_74 rfl (lv_at hl 2 rfl) ?_
            refine lv_bipush (v := 33) hx hb dX5_canStand_75 (by decide) ?_
            refine W_itei (P := p1 = 33) (a := 1) (b := (if p0 = 48 then (0 : Int32) else 1)) (J := 91) (ls9 := ls) (rest9 := []) (fun ja7 jb7 => ?_) ?_
            · refine lv_icmp_eq (tgt := 86) hx hb dX5_canStand_77 (by decide) (fun c6 => ?_) (fun c6 => ?_)
              · skip
                refine lv_iconst (v := 1) hx hb dX5_canStand_86 (by decide) ?_
                refine lv_goto (tgt := 91) hx hb dX5_canStand_87 (by decide) ?_
                exact ja7 c6
              · skip
                refine lv_iload_n hx hb dX5_canStand_80 rfl (lv_at hl 1 rfl) ?_
                refine lv_bipush (v := 48) hx hb dX5_canStand_81 (by decide) ?_
                refine W_itei (P := p0 = 48) (a := 0) (b := 1) (J := 91) (ls9 := ls) (rest9 := []) (fun ja9 jb9 => ?_) ?_
                · refine lv_icmp_eq (tgt := 90) hx hb dX5_canStand_83 (by decide) (fun c8 => ?_) (fun c8 => ?_)
                  · skip
                    refine lv_iconst (v := 0) hx hb dX5_canStand_90 (by decide) ?_
                    exact ja9 c8
                  · skip
                    refine lv_iconst (v := 1) hx hb dX5_canStand_86 (by decide) ?_
                    refine lv_goto (tgt := 91) hx hb dX5_canStand_87 (by decide) ?_
                    exact jb9 c8
                exact jb7 c6
            exact jb5 c4
        exact jb3 c2
      · skip
        refine lv_iload_n hx hb dX5_canStand_56 rfl (lv_at hl 1 rfl) ?_
        refine lv_i2l hx hb dX5_canStand_57 rfl ?_
        refine lv_ldc2 (v := 65) hx hb hown (hts (.constantLong RX5 93 65) (by decide +kernel)) dX5_canStand_58 ?_
        refine lv_ldc2 (v := 70) hx hb hown (hts (.constantLong RX5 95 70) (by decide +kernel)) dX5_canStand_61 ?_
        refine rcSi (As := [.long p0.toInt64, .long 65, .long 70]) (rest := []) hSF (kX5_in l D cI cZ cC p0.toInt64 65 70) (va_cwS 3 hts gX5_canStand_X5_in rfl rfl rfl (by decide +kernel) ⟨Nat.le_of_ble_eq_true rfl, Nat.le_of_ble_eq_true rfl⟩) (hP.sub [] rfl) hK hN rfl rfl hl.1 (Nat.le_of_ble_eq_true rfl) dX5_canStand_64 ⟨Nat.zero_le _, Nat.zero_le _⟩ ?_
        refine lv_goto (tgt := 91) hx hb dX5_canStand_67 (by decide) ?_
        exact ja3 c2
    have e9 : fX5_canStand p0 p1 = (if p1 = 126 then (fX5_in p0.toInt64 65 70) else (if (fX5_in p0.toInt64 48 57) = 0 then (0 : Int32) else (if p1 = 33 then (1 : Int32) else (if p0 = 48 then (0 : Int32) else 1)))) := by
      simp only [fX5_canStand, if_neg c1]
    exact W.zret hx hb hr (nar_z (if_z (zX5_in p0.toInt64 65 70) (if_z (Or.inl rfl) (if_z (Or.inr rfl) (if_z (Or.inl rfl) (Or.inr rfl)))))) (fun t ht hW => ⟨_, rfl, e9.symm, ht⟩) (fun _ h9 => absurd h9 List.not_mem_nil) dX5_canStand_91
  · skip
    refine lv_iload_n hx hb dX5_canStand_16 rfl (lv_at hl 0 rfl) ?_
    refine W_itei (P := (fX5_in p0.toInt64 48 57) = 0) (a := (if p0 = 33 then (1 : Int32) else (if p0 = 45 then (1 : Int32) else (if p0 = 46 then (1 : Int32) else (if p0 = 126 then (1 : Int32) else 0))))) (b := 1) (J := 49) (ls9 := ls) (rest9 := []) (fun ja11 jb11 => ?_) ?_
    · refine lv_if_ne (tgt := 44) hx hb dX5_canStand_17 (by decide) (fun c10 => ?_) (fun c10 => ?_)
      · skip
        refine lv_iconst (v := 1) hx hb dX5_canStand_44 (by decide) ?_
        refine lv_goto (tgt := 49) hx hb dX5_canStand_45 (by decide) ?_
        exact jb11 c10
      · skip
        refine lv_iload_n hx hb dX5_canStand_20 rfl (lv_at hl 1 rfl) ?_
        refine lv_bipush (v := 33) hx hb dX5_canStand_21 (by decide) ?_
        refine W_itei (P := p0 = 33) (a := 1) (b := (if p0 = 45 then (1 : Int32) else (if p0 = 46 then (1 : Int32) else (if p0 = 126 then (1 : Int32) else 0)))) (J := 49) (ls9 := ls) (rest9 := []) (fun ja13 jb13 => ?_) ?_
        · refine lv_icmp_eq (tgt := 44) hx hb dX5_canStand_23 (by decide) (fun c12 => ?_) (fun c12 => ?_)
          · skip
            refine lv_iconst (v := 1) hx hb dX5_canStand_44 (by decide) ?_
            refine lv_goto (tgt := 49) hx hb dX5_canStand_45 (by decide) ?_
            exact ja13 c12
          · skip
            refine lv_iload_n hx hb dX5_canStand_26 rfl (lv_at hl 1 rfl) ?_
            refine lv_bipush (v := 45) hx hb dX5_canStand_27 (by decide) ?_
            refine W_itei (P := p0 = 45) (a := 1) (b := (if p0 = 46 then (1 : Int32) else (if p0 = 126 then (1 : Int32) else 0))) (J := 49) (ls9 := ls) (rest9 := []) (fun ja15 jb15 => ?_) ?_
            · refine lv_icmp_eq (tgt := 44) hx hb dX5_canStand_29 (by decide) (fun c14 => ?_) (fun c14 => ?_)
              · skip
                refine lv_iconst (v := 1) hx hb dX5_canStand_44 (by decide) ?_
                refine lv_goto (tgt := 49) hx hb dX5_canStand_45 (by decide) ?_
                exact ja15 c14
              · skip
                refine lv_iload_n hx hb dX5_canStand_32 rfl (lv_at hl 1 rfl) ?_
                refine lv_bipush (v := 46) hx hb dX5_canStand_33 (by decide) ?_
                refine W_itei (P := p0 = 46) (a := 1) (b := (if p0 = 126 then (1 : Int32) else 0)) (J := 49) (ls9 := ls) (rest9 := []) (fun ja17 jb17 => ?_) ?_
                · refine lv_icmp_eq (tgt := 44) hx hb dX5_canStand_35 (by decide) (fun c16 => ?_) (fun c16 => ?_)
                  · skip
                    refine lv_iconst (v := 1) hx hb dX5_canStand_44 (by decide) ?_
                    refine lv_goto (tgt := 49) hx hb dX5_canStand_45 (by decide) ?_
                    exact ja17 c16
                  · skip
                    refine lv_iload_n hx hb dX5_canStand_38 rfl (lv_at hl 1 rfl) ?_
                    refine lv_bipush (v := 126) hx hb dX5_canStand_39 (by decide) ?_
                    refine W_itei (P := p0 = 126) (a := 1) (b := 0) (J := 49) (ls9 := ls) (rest9 := []) (fun ja19 jb19 => ?_) ?_
                    · refine lv_icmp_ne (tgt := 48) hx hb dX5_canStand_41 (by decide) (fun c18 => ?_) (fun c18 => ?_)
                      · skip
                        refine lv_iconst (v := 0) hx hb dX5_canStand_48 (by decide) ?_
                        exact jb19 c18
                      · skip
                        refine lv_iconst (v := 1) hx hb dX5_canStand_44 (by decide) ?_
                        refine lv_goto (tgt := 49) hx hb dX5_canStand_45 (by decide) ?_
                        exact ja19 c18
                    exact jb17 c16
                exact jb15 c14
            exact jb13 c12
        exact ja11 c10
    have e9 : fX5_canStand p0 p1 = (if (fX5_in p0.toInt64 48 57) = 0 then (if p0 = 33 then (1 : Int32) else (if p0 = 45 then (1 : Int32) else (if p0 = 46 then (1 : Int32) else (if p0 = 126 then (1 : Int32) else 0)))) else 1) := by
      simp only [fX5_canStand, if_pos c1]
    exact W.zret hx hb hr (nar_z (if_z (if_z (Or.inr rfl) (if_z (Or.inr rfl) (if_z (Or.inr rfl) (if_z (Or.inr rfl) (Or.inl rfl))))) (Or.inr rfl))) (fun t ht hW => ⟨_, rfl, e9.symm, ht⟩) (fun _ h9 => absurd h9 List.not_mem_nil) dX5_canStand_49

set_option maxHeartbeats 4000000 in
set_option maxRecDepth 100000 in
theorem kX5_isOpening (l : Launch) (D : va_G) (cI cZ cC : ClassId)  (p0 : Int32) (p1 : Int32)  : Met l yX5_isOpening wsX5_isOpening ({ frames := 0, cells := 0, slots := 0, locals := 0 }) (pR D (tyv cI cZ cC) ([]) [.int p0, .int p1]) (vp_Si (fun r => r = fX5_isOpening p0 p1)) 0 0 (fun _ => False) := by
  refine Met.ofW (cc := cX5_isOpening) (maxL := 2) (ret := (some .boolean)) (by decide) rfl ?_
  intro p e s m args below meth c s₁ B hml hv
  obtain ⟨rfl, hP, hK, hN⟩ := hv
  have hx := B.exec
  have hb := B.bytes
  have hr := B.returns
  have hts := atoms_spec (ws := wsX5_isOpening) B.pre
  have hown : s.vm.findClass RX5 = some m.cls := findClass_of_methodNamed B.named
  have hlocks := B.notSynchronized
  have hP : va_P D vwCl ([]) s.heap := hP
  have hl := lv_entry ([.int p0, .int p1]) (n := 2) (Nat.le_of_ble_eq_true rfl)
  rw [lg_entry_eq]
  generalize (lg_sl ([.int p0, .int p1]) ++ List.replicate (2 - (lg_sl ([.int p0, .int p1])).length) Slot.unset).toArray = ls at hl ⊢
  have hl : lv_has ls 2 [(0, .int p0), (1, .int p1)] := hl
  have hSF : CallFix p m c cX5_isOpening 2 s _ wsX5_isOpening RX5 := ⟨hx, hb, hml, hown, hts⟩
  refine lv_iload_n hx hb dX5_isOpening_0 rfl (lv_at hl 1 rfl) ?_
  refine W_itei (P := p1 = 0) (a := (if p0 = 33 then (1 : Int32) else (if p0 = 45 then (1 : Int32) else (if p0 = 126 then (1 : Int32) else 0)))) (b := 0) (J := 27) (ls9 := ls) (rest9 := []) (fun ja2 jb2 => ?_) ?_
  · refine lv_if_ne (tgt := 26) hx hb dX5_isOpening_1 (by decide) (fun c1 => ?_) (fun c1 => ?_)
    · skip
      refine lv_iconst (v := 0) hx hb dX5_isOpening_26 (by decide) ?_
      exact jb2 c1
    · skip
      refine lv_iload_n hx hb dX5_isOpening_4 rfl (lv_at hl 0 rfl) ?_
      refine lv_bipush (v := 33) hx hb dX5_isOpening_5 (by decide) ?_
      refine W_itei (P := p0 = 33) (a := 1) (b := (if p0 = 45 then (1 : Int32) else (if p0 = 126 then (1 : Int32) else 0))) (J := 27) (ls9 := ls) (rest9 := []) (fun ja4 jb4 => ?_) ?_
      · refine lv_icmp_eq (tgt := 22) hx hb dX5_isOpening_7 (by decide) (fun c3 => ?_) (fun c3 => ?_)
        · skip
          refine lv_iconst (v := 1) hx hb dX5_isOpening_22 (by decide) ?_
          refine lv_goto (tgt := 27) hx hb dX5_isOpening_23 (by decide) ?_
          exact ja4 c3
        · skip
          refine lv_iload_n hx hb dX5_isOpening_10 rfl (lv_at hl 0 rfl) ?_
          refine lv_bipush (v := 45) hx hb dX5_isOpening_11 (by decide) ?_
          refine W_itei (P := p0 = 45) (a := 1) (b := (if p0 = 126 then (1 : Int32) else 0)) (J := 27) (ls9 := ls) (rest9 := []) (fun ja6 jb6 => ?_) ?_
          · refine lv_icmp_eq (tgt := 22) hx hb dX5_isOpening_13 (by decide) (fun c5 => ?_) (fun c5 => ?_)
            · skip
              refine lv_iconst (v := 1) hx hb dX5_isOpening_22 (by decide) ?_
              refine lv_goto (tgt := 27) hx hb dX5_isOpening_23 (by decide) ?_
              exact ja6 c5
            · skip
              refine lv_iload_n hx hb dX5_isOpening_16 rfl (lv_at hl 0 rfl) ?_
              refine lv_bipush (v := 126) hx hb dX5_isOpening_17 (by decide) ?_
              refine W_itei (P := p0 = 126) (a := 1) (b := 0) (J := 27) (ls9 := ls) (rest9 := []) (fun ja8 jb8 => ?_) ?_
              · refine lv_icmp_ne (tgt := 26) hx hb dX5_isOpening_19 (by decide) (fun c7 => ?_) (fun c7 => ?_)
                · skip
                  refine lv_iconst (v := 0) hx hb dX5_isOpening_26 (by decide) ?_
                  exact jb8 c7
                · skip
                  refine lv_iconst (v := 1) hx hb dX5_isOpening_22 (by decide) ?_
                  refine lv_goto (tgt := 27) hx hb dX5_isOpening_23 (by decide) ?_
                  exact ja8 c7
              exact jb6 c5
          exact jb4 c3
      exact ja2 c1
  have e9 : fX5_isOpening p0 p1 = (if p1 = 0 then (if p0 = 33 then (1 : Int32) else (if p0 = 45 then (1 : Int32) else (if p0 = 126 then (1 : Int32) else 0))) else 0) := by
    rfl
  exact W.zret hx hb hr (nar_z (if_z (if_z (Or.inr rfl) (if_z (Or.inr rfl) (if_z (Or.inr rfl) (Or.inl rfl)))) (Or.inl rfl))) (fun t ht hW => ⟨_, rfl, e9.symm, ht⟩) (fun _ h9 => absurd h9 List.not_mem_nil) dX5_isOpening_27

set_option maxHeartbeats 4000000 in
set_option maxRecDepth 100000 in
theorem kX5_fault (l : Launch) (D : va_G) (cI cZ cC : ClassId) (hm : Nat) (am : Nat → Nat) (om : OV)  (hn : (om.1 13).toNatClampNeg ≤ 40 ∧ om.1 13 = nI (om.1 13).toNatClampNeg) : Met l yX5_fault wsX5_fault ({ frames := 2, cells := 0, slots := 0, locals := 47 }) (pR D (tyv cI cZ cC) (wX5 cI cZ hm am om) [.ref hm]) (vp_Si (fun r => r = fX5_fault om)) 0 0 (fun _ => False) := by
  refine Met.ofW (cc := cX5_fault) (maxL := 3) (ret := (some .int)) (by decide) rfl ?_
  intro p e s m args below meth c s₁ B hml hv
  obtain ⟨rfl, hP, hK, hN⟩ := hv
  have hx := B.exec
  have hb := B.bytes
  have hr := B.returns
  have hts := atoms_spec (ws := wsX5_fault) B.pre
  have hown : s.vm.findClass RX5 = some m.cls := findClass_of_methodNamed B.named
  have hlocks := B.notSynchronized
  have hP : va_P D vwCl (wX5 cI cZ hm am om) s.heap := hP
  have hl := lv_entry ([.ref hm]) (n := 3) (Nat.le_of_ble_eq_true rfl)
  rw [lg_entry_eq]
  generalize (lg_sl ([.ref hm]) ++ List.replicate (3 - (lg_sl ([.ref hm])).length) Slot.unset).toArray = ls at hl ⊢
  have hl : lv_has ls 3 [(0, .ref hm)] := hl
  have hSF : CallFix p m c cX5_fault 3 s _ wsX5_fault RX5 := ⟨hx, hb, hml, hown, hts⟩
  have hi5 : ∀ w ∈ wsX50, w ∈ wsX5_fault := by decide +kernel
  have hf86 : (Cond.fieldLink RX5 86 "UmbrellaVoteModel" "padMany" "I").before _ s = true := hts _ (by decide +kernel)
  have hf28 : (Cond.fieldLink RX5 28 "UmbrellaVoteModel" "pad" "[I").before _ s = true := hts _ (by decide +kernel)
  refine lv_iconst (v := 0) hx hb dX5_fault_0 (by decide) ?_
  refine lv_istore_n (lv' := [(1, .int 0), (0, .ref hm)]) hx hb dX5_fault_1 rfl hl (by decide) rfl (fun ls hl => ?_)
  refine lv_iconst (v := 0) hx hb dX5_fault_2 (by decide) ?_
  refine lv_istore_n (lv' := [(2, .int 0), (1, .int 0), (0, .ref hm)]) hx hb dX5_fault_3 rfl hl (by decide) rfl (fun ls hl => ?_)
  refine W_ltR (σ := Int32) ((om.1 13).toNatClampNeg) (fun r9 k9 x9 ls9 => lv_has ls9 3 [(2, .int (nI k9)), (1, .int x9), (0, .ref hm)] ∧ fX5_fault_L4 om r9 k9 x9 = fX5_fault_L4 om ((om.1 13).toNatClampNeg) 0 0) 0 ⟨lv_sub hl [0, 1, 2] rfl, rfl⟩ ?_ ?_
  · intro r1 k1 y1 ls hr1 hI9 ih1
    obtain ⟨hl, hG1⟩ := hI9
    obtain ⟨x1_1, en1⟩ : ∃ z, z = y1 := ⟨_, rfl⟩
    subst en1
    have hG1 : fX5_fault_L4 om (r1 + 1) k1 x1_1 = fX5_fault_L4 om ((om.1 13).toNatClampNeg) 0 0 := hG1
    have hl : lv_has ls 3 [(2, .int (nI k1)), (1, .int x1_1), (0, .ref hm)] := hl
    have hk1 : k1 < (om.1 13).toNatClampNeg := by omega
    refine lv_iload_n hx hb dX5_fault_4 rfl (lv_at hl 0 rfl) ?_
    refine lv_aload_n hx hb dX5_fault_5 rfl (lv_at hl 2 rfl) ?_
    refine va_get (D := D) (ci := 5) (v := .int (om.1 13)) (C := RX5) (T := TX5) (N := 24) hx hb hts hi5 hown hK hP 0 rfl rfl 13 (by decide) hf86 (fun _ h9 => h9) rfl dX5_fault_6 ?_
    refine lv_icmp_ge (tgt := 57) hx hb dX5_fault_9 (by decide) (fun c2 => absurd c2 (bnd_nle hn.2 hk1 (Nat.lt_of_le_of_lt hn.1 (by decide)))) (fun c2 => ?_)
    refine lv_aload_n hx hb dX5_fault_12 rfl (lv_at hl 2 rfl) ?_
    refine va_get (D := D) (ci := 5) (v := .ref (am 12)) (C := RX5) (T := TX5) (N := 24) hx hb hts hi5 hown hK hP 0 rfl rfl 12 (by decide) hf28 (fun _ h9 => h9) rfl dX5_fault_13 ?_
    refine lv_iload_n hx hb dX5_fault_16 rfl (lv_at hl 0 rfl) ?_
    refine va_iald (f := (om.2 12)) hx hb hK hP 7 0 rfl rfl (vp_in_nI (Nat.lt_of_lt_of_le hk1 hn.1) (by decide)) dX5_fault_17 ?_
    refine lv_iload_n hx hb dX5_fault_18 rfl (lv_at hl 1 rfl) ?_
    refine rcSi (As := [.int ((om.2 12) (nI k1).toNatClampNeg), .int x1_1]) (rest := []) hSF (kX5_canStand l D cI cZ cC ((om.2 12) (nI k1).toNatClampNeg) x1_1) (va_cwS 2 hts gX5_fault_X5_canStand rfl rfl rfl (by decide +kernel) ⟨Nat.le_of_ble_eq_true rfl, Nat.le_of_ble_eq_true rfl⟩) (hP.sub [] rfl) hK hN rfl rfl hl.1 (Nat.le_of_ble_eq_true rfl) dX5_fault_19 ⟨Nat.zero_le _, Nat.zero_le _⟩ ?_
    refine lv_if_ne (tgt := 27) hx hb dX5_fault_22 (by decide) (fun c3 => ?_) (fun c3 => ?_)
    · skip
      refine lv_aload_n hx hb dX5_fault_27 rfl (lv_at hl 2 rfl) ?_
      refine va_get (D := D) (ci := 5) (v := .ref (am 12)) (C := RX5) (T := TX5) (N := 24) hx hb hts hi5 hown hK hP 0 rfl rfl 12 (by decide) hf28 (fun _ h9 => h9) rfl dX5_fault_28 ?_
      refine lv_iload_n hx hb dX5_fault_31 rfl (lv_at hl 0 rfl) ?_
      refine va_iald (f := (om.2 12)) hx hb hK hP 7 0 rfl rfl (vp_in_nI (Nat.lt_of_lt_of_le hk1 hn.1) (by decide)) dX5_fault_32 ?_
      refine lv_iload_n hx hb dX5_fault_33 rfl (lv_at hl 1 rfl) ?_
      refine rcSi (As := [.int ((om.2 12) (nI k1).toNatClampNeg), .int x1_1]) (rest := []) hSF (kX5_isOpening l D cI cZ cC ((om.2 12) (nI k1).toNatClampNeg) x1_1) (va_cwS 2 hts gX5_fault_X5_isOpening rfl rfl rfl (by decide +kernel) ⟨Nat.le_of_ble_eq_true rfl, Nat.le_of_ble_eq_true rfl⟩) (hP.sub [] rfl) hK hN rfl rfl hl.1 (Nat.le_of_ble_eq_true rfl) dX5_fault_34 ⟨Nat.zero_le _, Nat.zero_le _⟩ ?_
      refine W_itei (P := (fX5_isOpening ((om.2 12) (nI k1).toNatClampNeg) x1_1) = 0) (a := 0) (b := ((om.2 12) (nI k1).toNatClampNeg)) (J := 50) (ls9 := ls) (rest9 := []) (fun ja5 jb5 => ?_) ?_
      · refine lv_if_eq (tgt := 49) hx hb dX5_fault_37 (by decide) (fun c4 => ?_) (fun c4 => ?_)
        · skip
          refine lv_iconst (v := 0) hx hb dX5_fault_49 (by decide) ?_
          exact ja5 c4
        · skip
          refine lv_aload_n hx hb dX5_fault_40 rfl (lv_at hl 2 rfl) ?_
          refine va_get (D := D) (ci := 5) (v := .ref (am 12)) (C := RX5) (T := TX5) (N := 24) hx hb hts hi5 hown hK hP 0 rfl rfl 12 (by decide) hf28 (fun _ h9 => h9) rfl dX5_fault_41 ?_
          refine lv_iload_n hx hb dX5_fault_44 rfl (lv_at hl 0 rfl) ?_
          refine va_iald (f := (om.2 12)) hx hb hK hP 7 0 rfl rfl (vp_in_nI (Nat.lt_of_lt_of_le hk1 hn.1) (by decide)) dX5_fault_45 ?_
          refine lv_goto (tgt := 50) hx hb dX5_fault_46 (by decide) ?_
          exact jb5 c4
      refine lv_topi (fun x6 ex6 => ?_)
      refine lv_istore_n (lv' := [(1, .int x6), (2, .int (nI k1)), (0, .ref hm)]) hx hb dX5_fault_50 rfl hl (by decide) rfl (fun ls hl => ?_)
      refine lv_iinc (v := ((nI k1) + 1)) (lv' := [(2, .int ((nI k1) + 1)), (1, .int x6), (0, .ref hm)]) hx hb dX5_fault_51 hl (k := 1) rfl rfl (by decide) rfl (fun ls hl => ?_)
      refine lv_goto (tgt := 4) hx hb dX5_fault_54 (by decide) ?_
      have hl9 : lv_has ls 3 [(2, .int (nI (k1 + 1))), (1, .int x6), (0, .ref hm)] := by
        rw [nI_succ]; exact lv_sub hl [0, 1, 2] rfl
      have e8 : fX5_fault_L4 om r1 (k1 + 1) x6 = fX5_fault_L4 om ((om.1 13).toNatClampNeg) 0 0 := by
        rw [← hG1]
        subst ex6
        simp only [fX5_fault_L4, if_neg c3]
      exact ih1 x6 ls ⟨hl9, e8⟩
    · skip
      refine lv_iload_n hx hb dX5_fault_25 rfl (lv_at hl 0 rfl) ?_
      have e9 : fX5_fault om = (nI k1) := by
        refine Eq.trans (b := fX5_fault_L4 om ((om.1 13).toNatClampNeg) 0 0) ?_ ?_
        · rfl
        · rw [← hG1]; simp only [fX5_fault_L4, if_pos c3]
      exact W.iret hx hb hr (fun t ht hW => ⟨_, rfl, e9.symm, ht⟩) (fun _ h9 => absurd h9 List.not_mem_nil) dX5_fault_26
  intro k1 y1 ls hB1 hI9
  obtain ⟨hl, hG1⟩ := hI9
  obtain ⟨x1_1, en1⟩ : ∃ z, z = y1 := ⟨_, rfl⟩
  subst en1
  have hG1 : fX5_fault_L4 om 0 k1 x1_1 = fX5_fault_L4 om ((om.1 13).toNatClampNeg) 0 0 := hG1
  have hl : lv_has ls 3 [(2, .int (nI k1)), (1, .int x1_1), (0, .ref hm)] := hl
  refine lv_iload_n hx hb dX5_fault_4 rfl (lv_at hl 0 rfl) ?_
  refine lv_aload_n hx hb dX5_fault_5 rfl (lv_at hl 2 rfl) ?_
  refine va_get (D := D) (ci := 5) (v := .int (om.1 13)) (C := RX5) (T := TX5) (N := 24) hx hb hts hi5 hown hK hP 0 rfl rfl 13 (by decide) hf86 (fun _ h9 => h9) rfl dX5_fault_6 ?_
  refine lv_icmp_ge (tgt := 57) hx hb dX5_fault_9 (by decide) (fun c7 => ?_) (fun c7 => absurd (by rw [hB1]; exact bnd_le hn.2) c7)
  refine lv_iload_n hx hb dX5_fault_57 rfl (lv_at hl 1 rfl) ?_
  refine W_itei (P := x1_1 = 0) (a := (-6)) (b := (om.1 13)) (J := 70) (ls9 := ls) (rest9 := []) (fun ja9 jb9 => ?_) ?_
  · refine lv_if_ne (tgt := 66) hx hb dX5_fault_58 (by decide) (fun c8 => ?_) (fun c8 => ?_)
    · skip
      refine lv_aload_n hx hb dX5_fault_66 rfl (lv_at hl 2 rfl) ?_
      refine va_get (D := D) (ci := 5) (v := .int (om.1 13)) (C := RX5) (T := TX5) (N := 24) hx hb hts hi5 hown hK hP 0 rfl rfl 13 (by decide) hf86 (fun _ h9 => h9) rfl dX5_fault_67 ?_
      exact jb9 c8
    · skip
      refine lv_bipush (v := (-6)) hx hb dX5_fault_61 (by decide) ?_
      refine lv_goto (tgt := 70) hx hb dX5_fault_63 (by decide) ?_
      exact ja9 c8
  have e9 : fX5_fault om = (if x1_1 = 0 then ((-6) : Int32) else (om.1 13)) := by
    refine Eq.trans (b := fX5_fault_L4 om ((om.1 13).toNatClampNeg) 0 0) ?_ ?_
    · rfl
    · rw [← hG1]; rfl
  exact W.iret hx hb hr (fun t ht hW => ⟨_, rfl, e9.symm, ht⟩) (fun _ h9 => absurd h9 List.not_mem_nil) dX5_fault_70

set_option maxHeartbeats 4000000 in
set_option maxRecDepth 100000 in
theorem kX5_opensAt (l : Launch) (D : va_G) (cI cZ cC : ClassId) (hm : Nat) (am : Nat → Nat) (om : OV) (p0 : Int32) (p1 : Int32)  : Met l yX5_opensAt wsX5_opensAt ({ frames := 3, cells := 0, slots := 0, locals := 66 }) (pR D (tyv cI cZ cC) (wX5 cI cZ hm am om) [.ref hm, .int p0, .int p1]) (vp_Si (fun r => r = fX5_opensAt om p0 p1)) 0 0 (fun _ => False) := by
  refine Met.ofW (cc := cX5_opensAt) (maxL := 5) (ret := (some .int)) (by decide) rfl ?_
  intro p e s m args below meth c s₁ B hml hv
  obtain ⟨rfl, hP, hK, hN⟩ := hv
  have hx := B.exec
  have hb := B.bytes
  have hr := B.returns
  have hts := atoms_spec (ws := wsX5_opensAt) B.pre
  have hown : s.vm.findClass RX5 = some m.cls := findClass_of_methodNamed B.named
  have hlocks := B.notSynchronized
  have hP : va_P D vwCl (wX5 cI cZ hm am om) s.heap := hP
  have hl := lv_entry ([.ref hm, .int p0, .int p1]) (n := 5) (Nat.le_of_ble_eq_true rfl)
  rw [lg_entry_eq]
  generalize (lg_sl ([.ref hm, .int p0, .int p1]) ++ List.replicate (5 - (lg_sl ([.ref hm, .int p0, .int p1])).length) Slot.unset).toArray = ls at hl ⊢
  have hl : lv_has ls 5 [(0, .ref hm), (1, .int p0), (2, .int p1)] := hl
  have hSF : CallFix p m c cX5_opensAt 5 s _ wsX5_opensAt RX5 := ⟨hx, hb, hml, hown, hts⟩
  have hi5 : ∀ w ∈ wsX50, w ∈ wsX5_opensAt := by decide +kernel
  have hf69 : (Cond.fieldLink RX5 69 "UmbrellaVoteModel" "holes" "I").before _ s = true := hts _ (by decide +kernel)
  have hf7 : (Cond.fieldLink RX5 7 "UmbrellaVoteModel" "placeOf" "[I").before _ s = true := hts _ (by decide +kernel)
  have hf79 : (Cond.fieldLink RX5 79 "UmbrellaVoteModel" "tables" "I").before _ s = true := hts _ (by decide +kernel)
  have hf48 : (Cond.fieldLink RX5 48 "UmbrellaVoteModel" "shade" "I").before _ s = true := hts _ (by decide +kernel)
  have hf44 : (Cond.fieldLink RX5 44 "UmbrellaVoteModel" "spread" "I").before _ s = true := hts _ (by decide +kernel)
  have hf13 : (Cond.fieldLink RX5 13 "UmbrellaVoteModel" "slowOf" "[I").before _ s = true := hts _ (by decide +kernel)
  refine lv_aload_n hx hb dX5_opensAt_0 rfl (lv_at hl 0 rfl) ?_
  refine lv_iload_n hx hb dX5_opensAt_1 rfl (lv_at hl 1 rfl) ?_
  refine rcVi (b := hm) (As := [.int p0]) (rest := []) hSF (kX5_isThere l D cI cZ cC hm am om p0) (cwV 1 hts gX5_opensAt_X5_isThere rfl rfl rfl (by decide +kernel) ⟨Nat.le_of_ble_eq_true rfl, Nat.le_of_ble_eq_true rfl⟩) (va_recv hK hP (ci := 5) (q0 := 0) rfl rfl) (hP.sub [0, 1, 2, 3, 4, 5, 6, 7, 8, 9, 10, 11] rfl) hK hN rfl rfl hl.1 (Nat.le_of_ble_eq_true rfl) dX5_opensAt_2 ⟨Nat.zero_le _, Nat.zero_le _⟩ ?_
  refine lv_if_eq (tgt := 20) hx hb dX5_opensAt_5 (by decide) (fun c1 => ?_) (fun c1 => ?_)
  · skip
    refine lv_sipush (v := 1000) hx hb dX5_opensAt_20 (by decide) ?_
    have e9 : fX5_opensAt om p0 p1 = 1000 := by
      simp only [fX5_opensAt, if_pos c1]
    exact W.iret hx hb hr (fun t ht hW => ⟨_, rfl, e9.symm, ht⟩) (fun _ h9 => absurd h9 List.not_mem_nil) dX5_opensAt_23
  · skip
    refine lv_aload_n hx hb dX5_opensAt_8 rfl (lv_at hl 0 rfl) ?_
    refine va_get (D := D) (ci := 5) (v := .int (om.1 4)) (C := RX5) (T := TX5) (N := 24) hx hb hts hi5 hown hK hP 0 rfl rfl 4 (by decide) hf69 (fun _ h9 => h9) rfl dX5_opensAt_9 ?_
    refine lv_iload_n hx hb dX5_opensAt_12 rfl (lv_at hl 1 rfl) ?_
    refine lv_ishr hx hb dX5_opensAt_13 ?_
    refine lv_iconst (v := 1) hx hb dX5_opensAt_14 (by decide) ?_
    refine lv_iand hx hb dX5_opensAt_15 ?_
    refine lv_iconst (v := 1) hx hb dX5_opensAt_16 (by decide) ?_
    refine lv_icmp_ne (tgt := 24) hx hb dX5_opensAt_17 (by decide) (fun c2 => ?_) (fun c2 => ?_)
    · skip
      refine lv_aload_n hx hb dX5_opensAt_24 rfl (lv_at hl 0 rfl) ?_
      refine va_get (D := D) (ci := 5) (v := .ref (am 1)) (C := RX5) (T := TX5) (N := 24) hx hb hts hi5 hown hK hP 0 rfl rfl 1 (by decide) hf7 (fun _ h9 => h9) rfl dX5_opensAt_25 ?_
      refine lv_iload_n hx hb dX5_opensAt_28 rfl (lv_at hl 1 rfl) ?_
      refine va_iald (f := (om.2 1)) hx hb hK hP 1 0 rfl rfl (it5 (by with_reducible assumption)) dX5_opensAt_29 ?_
      refine lv_iload_n hx hb dX5_opensAt_30 rfl (lv_at hl 2 rfl) ?_
      refine W_itei (P := ((om.2 1) p0.toNatClampNeg) ≤ p1) (a := (p1 - ((om.2 1) p0.toNatClampNeg))) (b := (((om.2 1) p0.toNatClampNeg) - p1)) (J := 53) (ls9 := ls) (rest9 := []) (fun ja4 jb4 => ?_) ?_
      · refine lv_icmp_le (tgt := 45) hx hb dX5_opensAt_31 (by decide) (fun c3 => ?_) (fun c3 => ?_)
        · skip
          refine lv_iload_n hx hb dX5_opensAt_45 rfl (lv_at hl 2 rfl) ?_
          refine lv_aload_n hx hb dX5_opensAt_46 rfl (lv_at hl 0 rfl) ?_
          refine va_get (D := D) (ci := 5) (v := .ref (am 1)) (C := RX5) (T := TX5) (N := 24) hx hb hts hi5 hown hK hP 0 rfl rfl 1 (by decide) hf7 (fun _ h9 => h9) rfl dX5_opensAt_47 ?_
          refine lv_iload_n hx hb dX5_opensAt_50 rfl (lv_at hl 1 rfl) ?_
          refine va_iald (f := (om.2 1)) hx hb hK hP 1 0 rfl rfl (it5 (by with_reducible assumption)) dX5_opensAt_51 ?_
          refine lv_isub hx hb dX5_opensAt_52 ?_
          exact ja4 c3
        · skip
          refine lv_aload_n hx hb dX5_opensAt_34 rfl (lv_at hl 0 rfl) ?_
          refine va_get (D := D) (ci := 5) (v := .ref (am 1)) (C := RX5) (T := TX5) (N := 24) hx hb hts hi5 hown hK hP 0 rfl rfl 1 (by decide) hf7 (fun _ h9 => h9) rfl dX5_opensAt_35 ?_
          refine lv_iload_n hx hb dX5_opensAt_38 rfl (lv_at hl 1 rfl) ?_
          refine va_iald (f := (om.2 1)) hx hb hK hP 1 0 rfl rfl (it5 (by with_reducible assumption)) dX5_opensAt_39 ?_
          refine lv_iload_n hx hb dX5_opensAt_40 rfl (lv_at hl 2 rfl) ?_
          refine lv_isub hx hb dX5_opensAt_41 ?_
          refine lv_goto (tgt := 53) hx hb dX5_opensAt_42 (by decide) ?_
          exact jb4 c3
      refine lv_topi (fun x5 ex5 => ?_)
      refine lv_istore_n (lv' := [(3, .int x5), (0, .ref hm), (1, .int p0), (2, .int p1)]) hx hb dX5_opensAt_53 rfl hl (by decide) rfl (fun ls hl => ?_)
      refine lv_aload_n hx hb dX5_opensAt_54 rfl (lv_at hl 1 rfl) ?_
      refine va_get (D := D) (ci := 5) (v := .int (om.1 5)) (C := RX5) (T := TX5) (N := 24) hx hb hts hi5 hown hK hP 0 rfl rfl 5 (by decide) hf79 (fun _ h9 => h9) rfl dX5_opensAt_55 ?_
      refine lv_aload_n hx hb dX5_opensAt_58 rfl (lv_at hl 1 rfl) ?_
      refine va_get (D := D) (ci := 5) (v := .ref (am 1)) (C := RX5) (T := TX5) (N := 24) hx hb hts hi5 hown hK hP 0 rfl rfl 1 (by decide) hf7 (fun _ h9 => h9) rfl dX5_opensAt_59 ?_
      refine lv_iload_n hx hb dX5_opensAt_62 rfl (lv_at hl 2 rfl) ?_
      refine va_iald (f := (om.2 1)) hx hb hK hP 1 0 rfl rfl (it5 (by with_reducible assumption)) dX5_opensAt_63 ?_
      refine lv_ishr hx hb dX5_opensAt_64 ?_
      refine lv_iconst (v := 1) hx hb dX5_opensAt_65 (by decide) ?_
      refine lv_iand hx hb dX5_opensAt_66 ?_
      refine lv_iconst (v := 1) hx hb dX5_opensAt_67 (by decide) ?_
      refine W_itei (P := (((om.1 5) >>> (((om.2 1) p0.toNatClampNeg) &&& 31)) &&& 1) = 1) (a := (om.1 7)) (b := 0) (J := 79) (ls9 := ls) (rest9 := []) (fun ja7 jb7 => ?_) ?_
      · refine lv_icmp_ne (tgt := 78) hx hb dX5_opensAt_68 (by decide) (fun c6 => ?_) (fun c6 => ?_)
        · skip
          refine lv_iconst (v := 0) hx hb dX5_opensAt_78 (by decide) ?_
          exact jb7 c6
        · skip
          refine lv_aload_n hx hb dX5_opensAt_71 rfl (lv_at hl 1 rfl) ?_
          refine va_get (D := D) (ci := 5) (v := .int (om.1 7)) (C := RX5) (T := TX5) (N := 24) hx hb hts hi5 hown hK hP 0 rfl rfl 7 (by decide) hf48 (fun _ h9 => h9) rfl dX5_opensAt_72 ?_
          refine lv_goto (tgt := 79) hx hb dX5_opensAt_75 (by decide) ?_
          exact ja7 c6
      refine lv_istore (lv' := [(4, .int (if (((om.1 5) >>> (((om.2 1) p0.toNatClampNeg) &&& 31)) &&& 1) = 1 then (om.1 7) else 0)), (3, .int x5), (0, .ref hm), (1, .int p0), (2, .int p1)]) hx hb dX5_opensAt_79 hl (by decide) rfl (fun ls hl => ?_)
      refine lv_aload_n hx hb dX5_opensAt_81 rfl (lv_at hl 2 rfl) ?_
      refine va_get (D := D) (ci := 5) (v := .int (om.1 6)) (C := RX5) (T := TX5) (N := 24) hx hb hts hi5 hown hK hP 0 rfl rfl 6 (by decide) hf44 (fun _ h9 => h9) rfl dX5_opensAt_82 ?_
      refine lv_iload_n hx hb dX5_opensAt_85 rfl (lv_at hl 1 rfl) ?_
      refine lv_imul hx hb dX5_opensAt_86 ?_
      refine lv_aload_n hx hb dX5_opensAt_87 rfl (lv_at hl 2 rfl) ?_
      refine va_get (D := D) (ci := 5) (v := .ref (am 2)) (C := RX5) (T := TX5) (N := 24) hx hb hts hi5 hown hK hP 0 rfl rfl 2 (by decide) hf13 (fun _ h9 => h9) rfl dX5_opensAt_88 ?_
      refine lv_iload_n hx hb dX5_opensAt_91 rfl (lv_at hl 3 rfl) ?_
      refine va_iald (f := (om.2 2)) hx hb hK hP 2 0 rfl rfl (it5 (by with_reducible assumption)) dX5_opensAt_92 ?_
      refine lv_iadd hx hb dX5_opensAt_93 ?_
      refine lv_iload hx hb dX5_opensAt_94 (lv_at hl 0 rfl) ?_
      refine lv_iadd hx hb dX5_opensAt_96 ?_
      have e9 : fX5_opensAt om p0 p1 = ((((om.1 6) * x5) + ((om.2 2) p0.toNatClampNeg)) + (if (((om.1 5) >>> (((om.2 1) p0.toNatClampNeg) &&& 31)) &&& 1) = 1 then (om.1 7) else 0)) := by
        simp only [fX5_opensAt, if_neg c1, if_neg c2]
        first | rw [← ex5] | (simp only [if_neg c1, if_neg c2] at ex5; rw [← ex5])
        simp only [fX5_opensAt_x5, if_neg c1, if_neg c2]
      exact W.iret hx hb hr (fun t ht hW => ⟨_, rfl, e9.symm, ht⟩) (fun _ h9 => absurd h9 List.not_mem_nil) dX5_opensAt_97
    · skip
      refine lv_sipush (v := 1000) hx hb dX5_opensAt_20 (by decide) ?_
      have e9 : fX5_opensAt om p0 p1 = 1000 := by
        simp only [fX5_opensAt, if_neg c1, if_pos c2]
      exact W.iret hx hb hr (fun t ht hW => ⟨_, rfl, e9.symm, ht⟩) (fun _ h9 => absurd h9 List.not_mem_nil) dX5_opensAt_23

set_option maxHeartbeats 4000000 in
set_option maxRecDepth 100000 in
theorem kX5_firstAt (l : Launch) (D : va_G) (cI cZ cC : ClassId) (hm : Nat) (am : Nat → Nat) (om : OV) (p0 : Int32)  : Met l yX5_firstAt wsX5_firstAt ({ frames := 4, cells := 0, slots := 0, locals := 90 }) (pR D (tyv cI cZ cC) (wX5 cI cZ hm am om) [.ref hm, .int p0]) (vp_Si (fun r => r = fX5_firstAt om p0)) 0 0 (fun _ => False) := by
  refine Met.ofW (cc := cX5_firstAt) (maxL := 5) (ret := (some .int)) (by decide) rfl ?_
  intro p e s m args below meth c s₁ B hml hv
  obtain ⟨rfl, hP, hK, hN⟩ := hv
  have hx := B.exec
  have hb := B.bytes
  have hr := B.returns
  have hts := atoms_spec (ws := wsX5_firstAt) B.pre
  have hown : s.vm.findClass RX5 = some m.cls := findClass_of_methodNamed B.named
  have hlocks := B.notSynchronized
  have hP : va_P D vwCl (wX5 cI cZ hm am om) s.heap := hP
  have hl := lv_entry ([.ref hm, .int p0]) (n := 5) (Nat.le_of_ble_eq_true rfl)
  rw [lg_entry_eq]
  generalize (lg_sl ([.ref hm, .int p0]) ++ List.replicate (5 - (lg_sl ([.ref hm, .int p0])).length) Slot.unset).toArray = ls at hl ⊢
  have hl : lv_has ls 5 [(0, .ref hm), (1, .int p0)] := hl
  have hSF : CallFix p m c cX5_firstAt 5 s _ wsX5_firstAt RX5 := ⟨hx, hb, hml, hown, hts⟩
  refine lv_sipush (v := 1000) hx hb dX5_firstAt_0 (by decide) ?_
  refine lv_istore_n (lv' := [(2, .int 1000), (0, .ref hm), (1, .int p0)]) hx hb dX5_firstAt_3 rfl hl (by decide) rfl (fun ls hl => ?_)
  refine lv_iconst (v := 0) hx hb dX5_firstAt_4 (by decide) ?_
  refine lv_istore_n (lv' := [(3, .int 0), (2, .int 1000), (0, .ref hm), (1, .int p0)]) hx hb dX5_firstAt_5 rfl hl (by decide) rfl (fun ls hl => ?_)
  refine W_lpR (6) (fun k9 ls9 => lv_has ls9 5 [(3, .int (nI k9)), (2, .int (fX5_firstAt_L6 om p0 1000 k9)), (0, .ref hm), (1, .int p0)]) (lv_sub hl [0, 1, 2, 3] rfl) ?_ ?_
  · intro k1 ls hk1 hl ih1
    generalize hs1 : fX5_firstAt_L6 om p0 1000 k1 = y1 at hl
    obtain ⟨x2_1, en1⟩ : ∃ z, z = y1 := ⟨_, rfl⟩
    subst en1
    refine lv_iload_n hx hb dX5_firstAt_6 rfl (lv_at hl 0 rfl) ?_
    refine lv_bipush (v := 6) hx hb dX5_firstAt_7 (by decide) ?_
    refine lv_icmp_ge (tgt := 39) hx hb dX5_firstAt_9 (by decide) (fun c2 => absurd c2 (nI_ge hk1 (by decide))) (fun c2 => ?_)
    refine lv_aload_n hx hb dX5_firstAt_12 rfl (lv_at hl 2 rfl) ?_
    refine lv_iload_n hx hb dX5_firstAt_13 rfl (lv_at hl 0 rfl) ?_
    refine lv_iload_n hx hb dX5_firstAt_14 rfl (lv_at hl 3 rfl) ?_
    refine rcVi (b := hm) (As := [.int (nI k1), .int p0]) (rest := []) hSF (kX5_opensAt l D cI cZ cC hm am om (nI k1) p0) (cwV 2 hts gX5_firstAt_X5_opensAt rfl rfl rfl (by decide +kernel) ⟨Nat.le_of_ble_eq_true rfl, Nat.le_of_ble_eq_true rfl⟩) (va_recv hK hP (ci := 5) (q0 := 0) rfl rfl) (hP.sub [0, 1, 2, 3, 4, 5, 6, 7, 8, 9, 10, 11] rfl) hK hN rfl rfl hl.1 (Nat.le_of_ble_eq_true rfl) dX5_firstAt_15 ⟨Nat.zero_le _, Nat.zero_le _⟩ ?_
    refine lv_istore (lv' := [(4, .int (fX5_opensAt om (nI k1) p0)), (3, .int (nI k1)), (2, .int x2_1), (0, .ref hm), (1, .int p0)]) hx hb dX5_firstAt_18 hl (by decide) rfl (fun ls hl => ?_)
    refine lv_iload hx hb dX5_firstAt_20 (lv_at hl 0 rfl) ?_
    refine lv_iload_n hx hb dX5_firstAt_22 rfl (lv_at hl 2 rfl) ?_
    refine W_itei (P := x2_1 ≤ (fX5_opensAt om (nI k1) p0)) (a := x2_1) (b := (fX5_opensAt om (nI k1) p0)) (J := 32) (ls9 := ls) (rest9 := []) (fun ja4 jb4 => ?_) ?_
    · refine lv_icmp_ge (tgt := 31) hx hb dX5_firstAt_23 (by decide) (fun c3 => ?_) (fun c3 => ?_)
      · skip
        refine lv_iload_n hx hb dX5_firstAt_31 rfl (lv_at hl 2 rfl) ?_
        exact ja4 c3
      · skip
        refine lv_iload hx hb dX5_firstAt_26 (lv_at hl 0 rfl) ?_
        refine lv_goto (tgt := 32) hx hb dX5_firstAt_28 (by decide) ?_
        exact jb4 c3
    refine lv_istore_n (lv' := [(2, .int (if x2_1 ≤ (fX5_opensAt om (nI k1) p0) then x2_1 else (fX5_opensAt om (nI k1) p0))), (4, .int (fX5_opensAt om (nI k1) p0)), (3, .int (nI k1)), (0, .ref hm), (1, .int p0)]) hx hb dX5_firstAt_32 rfl hl (by decide) rfl (fun ls hl => ?_)
    refine lv_iinc (v := ((nI k1) + 1)) (lv' := [(3, .int ((nI k1) + 1)), (2, .int (if x2_1 ≤ (fX5_opensAt om (nI k1) p0) then x2_1 else (fX5_opensAt om (nI k1) p0))), (4, .int (fX5_opensAt om (nI k1) p0)), (0, .ref hm), (1, .int p0)]) hx hb dX5_firstAt_33 hl (k := 2) rfl rfl (by decide) rfl (fun ls hl => ?_)
    refine lv_goto (tgt := 6) hx hb dX5_firstAt_36 (by decide) ?_
    have e8 : fX5_firstAt_L6s om p0 k1 x2_1 = (if x2_1 ≤ (fX5_opensAt om (nI k1) p0) then x2_1 else (fX5_opensAt om (nI k1) p0)) := by
      rfl
    have e7 : fX5_firstAt_L6 om p0 1000 (k1 + 1) = (if x2_1 ≤ (fX5_opensAt om (nI k1) p0) then x2_1 else (fX5_opensAt om (nI k1) p0)) := by
      show fX5_firstAt_L6s om p0 k1 (fX5_firstAt_L6 om p0 1000 k1) = _
      rw [hs1]; exact e8
    have hl9 : lv_has ls 5 [(3, .int (nI (k1 + 1))), (2, .int (fX5_firstAt_L6 om p0 1000 (k1 + 1))), (0, .ref hm), (1, .int p0)] := by
      rw [nI_succ, e7]; exact lv_sub hl [0, 1, 3, 4] rfl
    exact ih1 ls hl9
  intro ls hl
  refine lv_iload_n hx hb dX5_firstAt_6 rfl (lv_at hl 0 rfl) ?_
  refine lv_bipush (v := 6) hx hb dX5_firstAt_7 (by decide) ?_
  refine lv_icmp_ge (tgt := 39) hx hb dX5_firstAt_9 (by decide) (fun c5 => ?_) (fun c5 => absurd (nI_le (Nat.le_refl _) (by decide)) c5)
  refine lv_iload_n hx hb dX5_firstAt_39 rfl (lv_at hl 1 rfl) ?_
  have e9 : fX5_firstAt om p0 = (fX5_firstAt_L6 om p0 1000 (6)) := by
    rfl
  exact W.iret hx hb hr (fun t ht hW => ⟨_, rfl, e9.symm, ht⟩) (fun _ h9 => absurd h9 List.not_mem_nil) dX5_firstAt_40

set_option maxHeartbeats 4000000 in
set_option maxRecDepth 100000 in
theorem kX5_rulersBy (l : Launch) (D : va_G) (cI cZ cC : ClassId) (hm : Nat) (am : Nat → Nat) (om : OV) (p0 : Int32)  : Met l yX5_rulersBy wsX5_rulersBy ({ frames := 5, cells := 0, slots := 0, locals := 114 }) (pR D (tyv cI cZ cC) (wX5 cI cZ hm am om) [.ref hm, .int p0]) (vp_Si (fun r => r = fX5_rulersBy om p0)) 0 0 (fun _ => False) := by
  refine Met.ofW (cc := cX5_rulersBy) (maxL := 5) (ret := (some .int)) (by decide) rfl ?_
  intro p e s m args below meth c s₁ B hml hv
  obtain ⟨rfl, hP, hK, hN⟩ := hv
  have hx := B.exec
  have hb := B.bytes
  have hr := B.returns
  have hts := atoms_spec (ws := wsX5_rulersBy) B.pre
  have hown : s.vm.findClass RX5 = some m.cls := findClass_of_methodNamed B.named
  have hlocks := B.notSynchronized
  have hP : va_P D vwCl (wX5 cI cZ hm am om) s.heap := hP
  have hl := lv_entry ([.ref hm, .int p0]) (n := 5) (Nat.le_of_ble_eq_true rfl)
  rw [lg_entry_eq]
  generalize (lg_sl ([.ref hm, .int p0]) ++ List.replicate (5 - (lg_sl ([.ref hm, .int p0])).length) Slot.unset).toArray = ls at hl ⊢
  have hl : lv_has ls 5 [(0, .ref hm), (1, .int p0)] := hl
  have hSF : CallFix p m c cX5_rulersBy 5 s _ wsX5_rulersBy RX5 := ⟨hx, hb, hml, hown, hts⟩
  refine lv_aload_n hx hb dX5_rulersBy_0 rfl (lv_at hl 0 rfl) ?_
  refine lv_iload_n hx hb dX5_rulersBy_1 rfl (lv_at hl 1 rfl) ?_
  refine rcVi (b := hm) (As := [.int p0]) (rest := []) hSF (kX5_firstAt l D cI cZ cC hm am om p0) (cwV 1 hts gX5_rulersBy_X5_firstAt rfl rfl rfl (by decide +kernel) ⟨Nat.le_of_ble_eq_true rfl, Nat.le_of_ble_eq_true rfl⟩) (va_recv hK hP (ci := 5) (q0 := 0) rfl rfl) (hP.sub [0, 1, 2, 3, 4, 5, 6, 7, 8, 9, 10, 11] rfl) hK hN rfl rfl hl.1 (Nat.le_of_ble_eq_true rfl) dX5_rulersBy_2 ⟨Nat.zero_le _, Nat.zero_le _⟩ ?_
  refine lv_istore_n (lv' := [(2, .int (fX5_firstAt om p0)), (0, .ref hm), (1, .int p0)]) hx hb dX5_rulersBy_5 rfl hl (by decide) rfl (fun ls hl => ?_)
  refine lv_iconst (v := 0) hx hb dX5_rulersBy_6 (by decide) ?_
  refine lv_istore_n (lv' := [(3, .int 0), (2, .int (fX5_firstAt om p0)), (0, .ref hm), (1, .int p0)]) hx hb dX5_rulersBy_7 rfl hl (by decide) rfl (fun ls hl => ?_)
  refine lv_iconst (v := 0) hx hb dX5_rulersBy_8 (by decide) ?_
  refine lv_istore (lv' := [(4, .int 0), (3, .int 0), (2, .int (fX5_firstAt om p0)), (0, .ref hm), (1, .int p0)]) hx hb dX5_rulersBy_9 hl (by decide) rfl (fun ls hl => ?_)
  refine W_ltR (σ := Int32) (6) (fun r9 k9 x9 ls9 => lv_has ls9 5 [(4, .int (nI k9)), (3, .int x9), (2, .int (fX5_firstAt om p0)), (0, .ref hm), (1, .int p0)] ∧ fX5_rulersBy_L11 om p0 r9 k9 x9 = fX5_rulersBy_L11 om p0 (6) 0 0) 0 ⟨lv_sub hl [0, 1, 2, 3, 4] rfl, rfl⟩ ?_ ?_
  · intro r1 k1 y1 ls hr1 hI9 ih1
    obtain ⟨hl, hG1⟩ := hI9
    obtain ⟨x3_1, en1⟩ : ∃ z, z = y1 := ⟨_, rfl⟩
    subst en1
    have hG1 : fX5_rulersBy_L11 om p0 (r1 + 1) k1 x3_1 = fX5_rulersBy_L11 om p0 (6) 0 0 := hG1
    have hl : lv_has ls 5 [(4, .int (nI k1)), (3, .int x3_1), (2, .int (fX5_firstAt om p0)), (0, .ref hm), (1, .int p0)] := hl
    have hk1 : k1 < 6 := by omega
    refine lv_iload hx hb dX5_rulersBy_11 (lv_at hl 0 rfl) ?_
    refine lv_bipush (v := 6) hx hb dX5_rulersBy_13 (by decide) ?_
    refine lv_icmp_ge (tgt := 53) hx hb dX5_rulersBy_15 (by decide) (fun c2 => absurd c2 (nI_ge hk1 (by decide))) (fun c2 => ?_)
    refine lv_iload_n hx hb dX5_rulersBy_18 rfl (lv_at hl 2 rfl) ?_
    refine lv_sipush (v := 1000) hx hb dX5_rulersBy_19 (by decide) ?_
    refine lv_icmp_ge (tgt := 53) hx hb dX5_rulersBy_22 (by decide) (fun c3 => ?_) (fun c3 => ?_)
    · skip
      refine lv_iload_n hx hb dX5_rulersBy_53 rfl (lv_at hl 1 rfl) ?_
      have e9 : fX5_rulersBy om p0 = x3_1 := by
        refine Eq.trans (b := fX5_rulersBy_L11 om p0 (6) 0 0) ?_ ?_
        · rfl
        · rw [← hG1]; simp only [fX5_rulersBy_L11, if_pos c3]
      exact W.iret hx hb hr (fun t ht hW => ⟨_, rfl, e9.symm, ht⟩) (fun _ h9 => absurd h9 List.not_mem_nil) dX5_rulersBy_54
    · skip
      refine lv_iload_n hx hb dX5_rulersBy_25 rfl (lv_at hl 1 rfl) ?_
      refine lv_aload_n hx hb dX5_rulersBy_26 rfl (lv_at hl 3 rfl) ?_
      refine lv_iload hx hb dX5_rulersBy_27 (lv_at hl 0 rfl) ?_
      refine lv_iload_n hx hb dX5_rulersBy_29 rfl (lv_at hl 4 rfl) ?_
      refine rcVi (b := hm) (As := [.int (nI k1), .int p0]) (rest := [.int x3_1]) hSF (kX5_opensAt l D cI cZ cC hm am om (nI k1) p0) (cwV 2 hts gX5_rulersBy_X5_opensAt rfl rfl rfl (by decide +kernel) ⟨Nat.le_of_ble_eq_true rfl, Nat.le_of_ble_eq_true rfl⟩) (va_recv hK hP (ci := 5) (q0 := 0) rfl rfl) (hP.sub [0, 1, 2, 3, 4, 5, 6, 7, 8, 9, 10, 11] rfl) hK hN rfl rfl hl.1 (Nat.le_of_ble_eq_true rfl) dX5_rulersBy_30 ⟨Nat.zero_le _, Nat.zero_le _⟩ ?_
      refine lv_iload_n hx hb dX5_rulersBy_33 rfl (lv_at hl 2 rfl) ?_
      refine W_itei (P := (fX5_opensAt om (nI k1) p0) = (fX5_firstAt om p0)) (a := (1 <<< ((nI k1) &&& 31))) (b := 0) (J := 45) (ls9 := ls) (rest9 := [.int x3_1]) (fun ja5 jb5 => ?_) ?_
      · refine lv_icmp_ne (tgt := 44) hx hb dX5_rulersBy_34 (by decide) (fun c4 => ?_) (fun c4 => ?_)
        · skip
          refine lv_iconst (v := 0) hx hb dX5_rulersBy_44 (by decide) ?_
          exact jb5 c4
        · skip
          refine lv_iconst (v := 1) hx hb dX5_rulersBy_37 (by decide) ?_
          refine lv_iload hx hb dX5_rulersBy_38 (lv_at hl 0 rfl) ?_
          refine lv_ishl hx hb dX5_rulersBy_40 ?_
          refine lv_goto (tgt := 45) hx hb dX5_rulersBy_41 (by decide) ?_
          exact ja5 c4
      refine lv_ior hx hb dX5_rulersBy_45 ?_
      refine lv_topi (fun x6 ex6 => ?_)
      refine lv_istore_n (lv' := [(3, .int x6), (4, .int (nI k1)), (2, .int (fX5_firstAt om p0)), (0, .ref hm), (1, .int p0)]) hx hb dX5_rulersBy_46 rfl hl (by decide) rfl (fun ls hl => ?_)
      refine lv_iinc (v := ((nI k1) + 1)) (lv' := [(4, .int ((nI k1) + 1)), (3, .int x6), (2, .int (fX5_firstAt om p0)), (0, .ref hm), (1, .int p0)]) hx hb dX5_rulersBy_47 hl (k := 1) rfl rfl (by decide) rfl (fun ls hl => ?_)
      refine lv_goto (tgt := 11) hx hb dX5_rulersBy_50 (by decide) ?_
      have hl9 : lv_has ls 5 [(4, .int (nI (k1 + 1))), (3, .int x6), (2, .int (fX5_firstAt om p0)), (0, .ref hm), (1, .int p0)] := by
        rw [nI_succ]; exact lv_sub hl [0, 1, 2, 3, 4] rfl
      have e8 : fX5_rulersBy_L11 om p0 r1 (k1 + 1) x6 = fX5_rulersBy_L11 om p0 (6) 0 0 := by
        rw [← hG1]
        subst ex6
        simp only [fX5_rulersBy_L11, if_neg c3]
      exact ih1 x6 ls ⟨hl9, e8⟩
  intro k1 y1 ls hB1 hI9
  obtain ⟨hl, hG1⟩ := hI9
  obtain ⟨x3_1, en1⟩ : ∃ z, z = y1 := ⟨_, rfl⟩
  subst en1
  have hG1 : fX5_rulersBy_L11 om p0 0 k1 x3_1 = fX5_rulersBy_L11 om p0 (6) 0 0 := hG1
  have hl : lv_has ls 5 [(4, .int (nI k1)), (3, .int x3_1), (2, .int (fX5_firstAt om p0)), (0, .ref hm), (1, .int p0)] := hl
  refine lv_iload hx hb dX5_rulersBy_11 (lv_at hl 0 rfl) ?_
  refine lv_bipush (v := 6) hx hb dX5_rulersBy_13 (by decide) ?_
  refine lv_icmp_ge (tgt := 53) hx hb dX5_rulersBy_15 (by decide) (fun c7 => ?_) (fun c7 => absurd (by rw [hB1]; exact nI_le (Nat.le_refl _) (by decide)) c7)
  refine lv_iload_n hx hb dX5_rulersBy_53 rfl (lv_at hl 1 rfl) ?_
  have e9 : fX5_rulersBy om p0 = x3_1 := by
    refine Eq.trans (b := fX5_rulersBy_L11 om p0 (6) 0 0) ?_ ?_
    · rfl
    · rw [← hG1]; rfl
  exact W.iret hx hb hr (fun t ht hW => ⟨_, rfl, e9.symm, ht⟩) (fun _ h9 => absurd h9 List.not_mem_nil) dX5_rulersBy_54

set_option maxHeartbeats 4000000 in
set_option maxRecDepth 100000 in
theorem kX5_sprinkledBy (l : Launch) (D : va_G) (cI cZ cC : ClassId) (hm : Nat) (am : Nat → Nat) (om : OV) (p0 : Int32)  : Met l yX5_sprinkledBy wsX5_sprinkledBy ({ frames := 4, cells := 0, slots := 0, locals := 90 }) (pR D (tyv cI cZ cC) (wX5 cI cZ hm am om) [.ref hm, .int p0]) (vp_Si (fun r => r = fX5_sprinkledBy om p0)) 0 0 (fun _ => False) := by
  refine Met.ofW (cc := cX5_sprinkledBy) (maxL := 5) (ret := (some .int)) (by decide) rfl ?_
  intro p e s m args below meth c s₁ B hml hv
  obtain ⟨rfl, hP, hK, hN⟩ := hv
  have hx := B.exec
  have hb := B.bytes
  have hr := B.returns
  have hts := atoms_spec (ws := wsX5_sprinkledBy) B.pre
  have hown : s.vm.findClass RX5 = some m.cls := findClass_of_methodNamed B.named
  have hlocks := B.notSynchronized
  have hP : va_P D vwCl (wX5 cI cZ hm am om) s.heap := hP
  have hl := lv_entry ([.ref hm, .int p0]) (n := 5) (Nat.le_of_ble_eq_true rfl)
  rw [lg_entry_eq]
  generalize (lg_sl ([.ref hm, .int p0]) ++ List.replicate (5 - (lg_sl ([.ref hm, .int p0])).length) Slot.unset).toArray = ls at hl ⊢
  have hl : lv_has ls 5 [(0, .ref hm), (1, .int p0)] := hl
  have hSF : CallFix p m c cX5_sprinkledBy 5 s _ wsX5_sprinkledBy RX5 := ⟨hx, hb, hml, hown, hts⟩
  have hi5 : ∀ w ∈ wsX50, w ∈ wsX5_sprinkledBy := by decide +kernel
  have hf7 : (Cond.fieldLink RX5 7 "UmbrellaVoteModel" "placeOf" "[I").before _ s = true := hts _ (by decide +kernel)
  refine lv_sipush (v := 1000) hx hb dX5_sprinkledBy_0 (by decide) ?_
  refine lv_istore_n (lv' := [(2, .int 1000), (0, .ref hm), (1, .int p0)]) hx hb dX5_sprinkledBy_3 rfl hl (by decide) rfl (fun ls hl => ?_)
  refine lv_iconst (v := 0) hx hb dX5_sprinkledBy_4 (by decide) ?_
  refine lv_istore_n (lv' := [(3, .int 0), (2, .int 1000), (0, .ref hm), (1, .int p0)]) hx hb dX5_sprinkledBy_5 rfl hl (by decide) rfl (fun ls hl => ?_)
  refine W_lpR (6) (fun k9 ls9 => lv_has ls9 5 [(3, .int (nI k9)), (2, .int (fX5_sprinkledBy_L6 om p0 1000 k9)), (0, .ref hm), (1, .int p0)]) (lv_sub hl [0, 1, 2, 3] rfl) ?_ ?_
  · intro k1 ls hk1 hl ih1
    generalize hs1 : fX5_sprinkledBy_L6 om p0 1000 k1 = y1 at hl
    obtain ⟨x2_1, en1⟩ : ∃ z, z = y1 := ⟨_, rfl⟩
    subst en1
    refine lv_iload_n hx hb dX5_sprinkledBy_6 rfl (lv_at hl 0 rfl) ?_
    refine lv_bipush (v := 6) hx hb dX5_sprinkledBy_7 (by decide) ?_
    refine lv_icmp_ge (tgt := 55) hx hb dX5_sprinkledBy_9 (by decide) (fun c2 => absurd c2 (nI_ge hk1 (by decide))) (fun c2 => ?_)
    refine lv_aload_n hx hb dX5_sprinkledBy_12 rfl (lv_at hl 2 rfl) ?_
    refine va_get (D := D) (ci := 5) (v := .ref (am 1)) (C := RX5) (T := TX5) (N := 24) hx hb hts hi5 hown hK hP 0 rfl rfl 1 (by decide) hf7 (fun _ h9 => h9) rfl dX5_sprinkledBy_13 ?_
    refine lv_iload_n hx hb dX5_sprinkledBy_16 rfl (lv_at hl 0 rfl) ?_
    refine va_iald (f := (om.2 1)) hx hb hK hP 1 0 rfl rfl (vp_in_nI (Nat.lt_of_lt_of_le hk1 (by decide)) (by decide)) dX5_sprinkledBy_17 ?_
    refine lv_iload_n hx hb dX5_sprinkledBy_18 rfl (lv_at hl 3 rfl) ?_
    refine W_itei (P := ((om.2 1) (nI k1).toNatClampNeg) = p0) (a := (fX5_opensAt om (nI k1) p0)) (b := 1000) (J := 34) (ls9 := ls) (rest9 := []) (fun ja4 jb4 => ?_) ?_
    · refine lv_icmp_ne (tgt := 31) hx hb dX5_sprinkledBy_19 (by decide) (fun c3 => ?_) (fun c3 => ?_)
      · skip
        refine lv_sipush (v := 1000) hx hb dX5_sprinkledBy_31 (by decide) ?_
        exact jb4 c3
      · skip
        refine lv_aload_n hx hb dX5_sprinkledBy_22 rfl (lv_at hl 2 rfl) ?_
        refine lv_iload_n hx hb dX5_sprinkledBy_23 rfl (lv_at hl 0 rfl) ?_
        refine lv_iload_n hx hb dX5_sprinkledBy_24 rfl (lv_at hl 3 rfl) ?_
        refine rcVi (b := hm) (As := [.int (nI k1), .int p0]) (rest := []) hSF (kX5_opensAt l D cI cZ cC hm am om (nI k1) p0) (cwV 2 hts gX5_sprinkledBy_X5_opensAt rfl rfl rfl (by decide +kernel) ⟨Nat.le_of_ble_eq_true rfl, Nat.le_of_ble_eq_true rfl⟩) (va_recv hK hP (ci := 5) (q0 := 0) rfl rfl) (hP.sub [0, 1, 2, 3, 4, 5, 6, 7, 8, 9, 10, 11] rfl) hK hN rfl rfl hl.1 (Nat.le_of_ble_eq_true rfl) dX5_sprinkledBy_25 ⟨Nat.zero_le _, Nat.zero_le _⟩ ?_
        refine lv_goto (tgt := 34) hx hb dX5_sprinkledBy_28 (by decide) ?_
        exact ja4 c3
    refine lv_istore (lv' := [(4, .int (if ((om.2 1) (nI k1).toNatClampNeg) = p0 then (fX5_opensAt om (nI k1) p0) else 1000)), (3, .int (nI k1)), (2, .int x2_1), (0, .ref hm), (1, .int p0)]) hx hb dX5_sprinkledBy_34 hl (by decide) rfl (fun ls hl => ?_)
    refine lv_iload hx hb dX5_sprinkledBy_36 (lv_at hl 0 rfl) ?_
    refine lv_iload_n hx hb dX5_sprinkledBy_38 rfl (lv_at hl 2 rfl) ?_
    refine W_itei (P := x2_1 ≤ (if ((om.2 1) (nI k1).toNatClampNeg) = p0 then (fX5_opensAt om (nI k1) p0) else 1000)) (a := x2_1) (b := (if ((om.2 1) (nI k1).toNatClampNeg) = p0 then (fX5_opensAt om (nI k1) p0) else 1000)) (J := 48) (ls9 := ls) (rest9 := []) (fun ja6 jb6 => ?_) ?_
    · refine lv_icmp_ge (tgt := 47) hx hb dX5_sprinkledBy_39 (by decide) (fun c5 => ?_) (fun c5 => ?_)
      · skip
        refine lv_iload_n hx hb dX5_sprinkledBy_47 rfl (lv_at hl 2 rfl) ?_
        exact ja6 c5
      · skip
        refine lv_iload hx hb dX5_sprinkledBy_42 (lv_at hl 0 rfl) ?_
        refine lv_goto (tgt := 48) hx hb dX5_sprinkledBy_44 (by decide) ?_
        exact jb6 c5
    refine lv_topi (fun x7 ex7 => ?_)
    refine lv_istore_n (lv' := [(2, .int x7), (4, .int (if ((om.2 1) (nI k1).toNatClampNeg) = p0 then (fX5_opensAt om (nI k1) p0) else 1000)), (3, .int (nI k1)), (0, .ref hm), (1, .int p0)]) hx hb dX5_sprinkledBy_48 rfl hl (by decide) rfl (fun ls hl => ?_)
    refine lv_iinc (v := ((nI k1) + 1)) (lv' := [(3, .int ((nI k1) + 1)), (2, .int x7), (4, .int (if ((om.2 1) (nI k1).toNatClampNeg) = p0 then (fX5_opensAt om (nI k1) p0) else 1000)), (0, .ref hm), (1, .int p0)]) hx hb dX5_sprinkledBy_49 hl (k := 2) rfl rfl (by decide) rfl (fun ls hl => ?_)
    refine lv_goto (tgt := 6) hx hb dX5_sprinkledBy_52 (by decide) ?_
    have e8 : fX5_sprinkledBy_L6s om p0 k1 x2_1 = x7 := by
      unfold fX5_sprinkledBy_L6s
      rw [← ex7]
      rfl
    have e7 : fX5_sprinkledBy_L6 om p0 1000 (k1 + 1) = x7 := by
      show fX5_sprinkledBy_L6s om p0 k1 (fX5_sprinkledBy_L6 om p0 1000 k1) = _
      rw [hs1]; exact e8
    have hl9 : lv_has ls 5 [(3, .int (nI (k1 + 1))), (2, .int (fX5_sprinkledBy_L6 om p0 1000 (k1 + 1))), (0, .ref hm), (1, .int p0)] := by
      rw [nI_succ, e7]; exact lv_sub hl [0, 1, 3, 4] rfl
    exact ih1 ls hl9
  intro ls hl
  refine lv_iload_n hx hb dX5_sprinkledBy_6 rfl (lv_at hl 0 rfl) ?_
  refine lv_bipush (v := 6) hx hb dX5_sprinkledBy_7 (by decide) ?_
  refine lv_icmp_ge (tgt := 55) hx hb dX5_sprinkledBy_9 (by decide) (fun c8 => ?_) (fun c8 => absurd (nI_le (Nat.le_refl _) (by decide)) c8)
  refine lv_iconst (v := 0) hx hb dX5_sprinkledBy_55 (by decide) ?_
  refine lv_istore_n (lv' := [(3, .int 0), (2, .int (fX5_sprinkledBy_L6 om p0 1000 (6))), (0, .ref hm), (1, .int p0)]) hx hb dX5_sprinkledBy_56 rfl hl (by decide) rfl (fun ls hl => ?_)
  refine lv_iconst (v := 0) hx hb dX5_sprinkledBy_57 (by decide) ?_
  refine lv_istore (lv' := [(4, .int 0), (3, .int 0), (2, .int (fX5_sprinkledBy_L6 om p0 1000 (6))), (0, .ref hm), (1, .int p0)]) hx hb dX5_sprinkledBy_58 hl (by decide) rfl (fun ls hl => ?_)
  refine W_ltR (σ := Int32) (6) (fun r9 k9 x9 ls9 => lv_has ls9 5 [(4, .int (nI k9)), (3, .int x9), (2, .int (fX5_sprinkledBy_L6 om p0 1000 (6))), (0, .ref hm), (1, .int p0)] ∧ fX5_sprinkledBy_L60 om p0 r9 k9 x9 = fX5_sprinkledBy_L60 om p0 (6) 0 0) 0 ⟨lv_sub hl [0, 1, 2, 3, 4] rfl, rfl⟩ ?_ ?_
  · intro r9 k9 y9 ls hr9 hI9 ih9
    obtain ⟨hl, hG9⟩ := hI9
    obtain ⟨x3_9, en9⟩ : ∃ z, z = y9 := ⟨_, rfl⟩
    subst en9
    have hG9 : fX5_sprinkledBy_L60 om p0 (r9 + 1) k9 x3_9 = fX5_sprinkledBy_L60 om p0 (6) 0 0 := hG9
    have hl : lv_has ls 5 [(4, .int (nI k9)), (3, .int x3_9), (2, .int (fX5_sprinkledBy_L6 om p0 1000 (6))), (0, .ref hm), (1, .int p0)] := hl
    have hk9 : k9 < 6 := by omega
    refine lv_iload hx hb dX5_sprinkledBy_60 (lv_at hl 0 rfl) ?_
    refine lv_bipush (v := 6) hx hb dX5_sprinkledBy_62 (by decide) ?_
    refine lv_icmp_ge (tgt := 113) hx hb dX5_sprinkledBy_64 (by decide) (fun c10 => absurd c10 (nI_ge hk9 (by decide))) (fun c10 => ?_)
    refine lv_iload_n hx hb dX5_sprinkledBy_67 rfl (lv_at hl 2 rfl) ?_
    refine lv_sipush (v := 1000) hx hb dX5_sprinkledBy_68 (by decide) ?_
    refine lv_icmp_ge (tgt := 113) hx hb dX5_sprinkledBy_71 (by decide) (fun c11 => ?_) (fun c11 => ?_)
    · skip
      refine lv_iload_n hx hb dX5_sprinkledBy_113 rfl (lv_at hl 1 rfl) ?_
      have e9 : fX5_sprinkledBy om p0 = x3_9 := by
        refine Eq.trans (b := fX5_sprinkledBy_L60 om p0 (6) 0 0) ?_ ?_
        · rfl
        · rw [← hG9]; simp only [fX5_sprinkledBy_L60, if_pos c11]
      exact W.iret hx hb hr (fun t ht hW => ⟨_, rfl, e9.symm, ht⟩) (fun _ h9 => absurd h9 List.not_mem_nil) dX5_sprinkledBy_114
    · skip
      refine lv_iload_n hx hb dX5_sprinkledBy_74 rfl (lv_at hl 1 rfl) ?_
      refine lv_aload_n hx hb dX5_sprinkledBy_75 rfl (lv_at hl 3 rfl) ?_
      refine va_get (D := D) (ci := 5) (v := .ref (am 1)) (C := RX5) (T := TX5) (N := 24) hx hb hts hi5 hown hK hP 0 rfl rfl 1 (by decide) hf7 (fun _ h9 => h9) rfl dX5_sprinkledBy_76 ?_
      refine lv_iload hx hb dX5_sprinkledBy_79 (lv_at hl 0 rfl) ?_
      refine va_iald (f := (om.2 1)) hx hb hK hP 1 0 rfl rfl (vp_in_nI (Nat.lt_of_lt_of_le hk9 (by decide)) (by decide)) dX5_sprinkledBy_81 ?_
      refine lv_iload_n hx hb dX5_sprinkledBy_82 rfl (lv_at hl 4 rfl) ?_
      refine W_itei (P := ((om.2 1) (nI k9).toNatClampNeg) = p0) (a := (if (fX5_opensAt om (nI k9) p0) = (fX5_sprinkledBy_L6 om p0 1000 (6)) then (1 <<< ((nI k9) &&& 31)) else 0)) (b := 0) (J := 105) (ls9 := ls) (rest9 := [.int x3_9]) (fun ja13 jb13 => ?_) ?_
      · refine lv_icmp_ne (tgt := 104) hx hb dX5_sprinkledBy_83 (by decide) (fun c12 => ?_) (fun c12 => ?_)
        · skip
          refine lv_iconst (v := 0) hx hb dX5_sprinkledBy_104 (by decide) ?_
          exact jb13 c12
        · skip
          refine lv_aload_n hx hb dX5_sprinkledBy_86 rfl (lv_at hl 3 rfl) ?_
          refine lv_iload hx hb dX5_sprinkledBy_87 (lv_at hl 0 rfl) ?_
          refine lv_iload_n hx hb dX5_sprinkledBy_89 rfl (lv_at hl 4 rfl) ?_
          refine rcVi (b := hm) (As := [.int (nI k9), .int p0]) (rest := [.int x3_9]) hSF (kX5_opensAt l D cI cZ cC hm am om (nI k9) p0) (cwV 2 hts gX5_sprinkledBy_X5_opensAt rfl rfl rfl (by decide +kernel) ⟨Nat.le_of_ble_eq_true rfl, Nat.le_of_ble_eq_true rfl⟩) (va_recv hK hP (ci := 5) (q0 := 0) rfl rfl) (hP.sub [0, 1, 2, 3, 4, 5, 6, 7, 8, 9, 10, 11] rfl) hK hN rfl rfl hl.1 (Nat.le_of_ble_eq_true rfl) dX5_sprinkledBy_90 ⟨Nat.zero_le _, Nat.zero_le _⟩ ?_
          refine lv_iload_n hx hb dX5_sprinkledBy_93 rfl (lv_at hl 2 rfl) ?_
          refine W_itei (P := (fX5_opensAt om (nI k9) p0) = (fX5_sprinkledBy_L6 om p0 1000 (6))) (a := (1 <<< ((nI k9) &&& 31))) (b := 0) (J := 105) (ls9 := ls) (rest9 := [.int x3_9]) (fun ja15 jb15 => ?_) ?_
          · refine lv_icmp_ne (tgt := 104) hx hb dX5_sprinkledBy_94 (by decide) (fun c14 => ?_) (fun c14 => ?_)
            · skip
              refine lv_iconst (v := 0) hx hb dX5_sprinkledBy_104 (by decide) ?_
              exact jb15 c14
            · skip
              refine lv_iconst (v := 1) hx hb dX5_sprinkledBy_97 (by decide) ?_
              refine lv_iload hx hb dX5_sprinkledBy_98 (lv_at hl 0 rfl) ?_
              refine lv_ishl hx hb dX5_sprinkledBy_100 ?_
              refine lv_goto (tgt := 105) hx hb dX5_sprinkledBy_101 (by decide) ?_
              exact ja15 c14
          exact ja13 c12
      refine lv_ior hx hb dX5_sprinkledBy_105 ?_
      refine lv_topi (fun x16 ex16 => ?_)
      refine lv_istore_n (lv' := [(3, .int x16), (4, .int (nI k9)), (2, .int (fX5_sprinkledBy_L6 om p0 1000 (6))), (0, .ref hm), (1, .int p0)]) hx hb dX5_sprinkledBy_106 rfl hl (by decide) rfl (fun ls hl => ?_)
      refine lv_iinc (v := ((nI k9) + 1)) (lv' := [(4, .int ((nI k9) + 1)), (3, .int x16), (2, .int (fX5_sprinkledBy_L6 om p0 1000 (6))), (0, .ref hm), (1, .int p0)]) hx hb dX5_sprinkledBy_107 hl (k := 1) rfl rfl (by decide) rfl (fun ls hl => ?_)
      refine lv_goto (tgt := 60) hx hb dX5_sprinkledBy_110 (by decide) ?_
      have hl9 : lv_has ls 5 [(4, .int (nI (k9 + 1))), (3, .int x16), (2, .int (fX5_sprinkledBy_L6 om p0 1000 (6))), (0, .ref hm), (1, .int p0)] := by
        rw [nI_succ]; exact lv_sub hl [0, 1, 2, 3, 4] rfl
      have e8 : fX5_sprinkledBy_L60 om p0 r9 (k9 + 1) x16 = fX5_sprinkledBy_L60 om p0 (6) 0 0 := by
        rw [← hG9]
        subst ex16
        simp only [fX5_sprinkledBy_L60, if_neg c11]
      exact ih9 x16 ls ⟨hl9, e8⟩
  intro k9 y9 ls hB9 hI9
  obtain ⟨hl, hG9⟩ := hI9
  obtain ⟨x3_9, en9⟩ : ∃ z, z = y9 := ⟨_, rfl⟩
  subst en9
  have hG9 : fX5_sprinkledBy_L60 om p0 0 k9 x3_9 = fX5_sprinkledBy_L60 om p0 (6) 0 0 := hG9
  have hl : lv_has ls 5 [(4, .int (nI k9)), (3, .int x3_9), (2, .int (fX5_sprinkledBy_L6 om p0 1000 (6))), (0, .ref hm), (1, .int p0)] := hl
  refine lv_iload hx hb dX5_sprinkledBy_60 (lv_at hl 0 rfl) ?_
  refine lv_bipush (v := 6) hx hb dX5_sprinkledBy_62 (by decide) ?_
  refine lv_icmp_ge (tgt := 113) hx hb dX5_sprinkledBy_64 (by decide) (fun c17 => ?_) (fun c17 => absurd (by rw [hB9]; exact nI_le (Nat.le_refl _) (by decide)) c17)
  refine lv_iload_n hx hb dX5_sprinkledBy_113 rfl (lv_at hl 1 rfl) ?_
  have e9 : fX5_sprinkledBy om p0 = x3_9 := by
    refine Eq.trans (b := fX5_sprinkledBy_L60 om p0 (6) 0 0) ?_ ?_
    · rfl
    · rw [← hG9]; rfl
  exact W.iret hx hb hr (fun t ht hW => ⟨_, rfl, e9.symm, ht⟩) (fun _ h9 => absurd h9 List.not_mem_nil) dX5_sprinkledBy_114

set_option maxHeartbeats 4000000 in
set_option maxRecDepth 100000 in
theorem kX5_rules (l : Launch) (D : va_G) (cI cZ cC : ClassId) (hm : Nat) (am : Nat → Nat) (om : OV) (p0 : Int32) (p1 : Int32)  : Met l yX5_rules wsX5_rules ({ frames := 6, cells := 0, slots := 0, locals := 138 }) (pR D (tyv cI cZ cC) (wX5 cI cZ hm am om) [.ref hm, .int p0, .int p1]) (vp_Si (fun r => r = fX5_rules om p0 p1)) 0 0 (fun _ => False) := by
  refine Met.ofW (cc := cX5_rules) (maxL := 4) (ret := (some .int)) (by decide) rfl ?_
  intro p e s m args below meth c s₁ B hml hv
  obtain ⟨rfl, hP, hK, hN⟩ := hv
  have hx := B.exec
  have hb := B.bytes
  have hr := B.returns
  have hts := atoms_spec (ws := wsX5_rules) B.pre
  have hown : s.vm.findClass RX5 = some m.cls := findClass_of_methodNamed B.named
  have hlocks := B.notSynchronized
  have hP : va_P D vwCl (wX5 cI cZ hm am om) s.heap := hP
  have hl := lv_entry ([.ref hm, .int p0, .int p1]) (n := 4) (Nat.le_of_ble_eq_true rfl)
  rw [lg_entry_eq]
  generalize (lg_sl ([.ref hm, .int p0, .int p1]) ++ List.replicate (4 - (lg_sl ([.ref hm, .int p0, .int p1])).length) Slot.unset).toArray = ls at hl ⊢
  have hl : lv_has ls 4 [(0, .ref hm), (1, .int p0), (2, .int p1)] := hl
  have hSF : CallFix p m c cX5_rules 4 s _ wsX5_rules RX5 := ⟨hx, hb, hml, hown, hts⟩
  refine lv_iload_n hx hb dX5_rules_0 rfl (lv_at hl 1 rfl) ?_
  refine rcSi (As := [.int p0]) (rest := []) hSF (kX5_isPlace l D cI cZ cC p0) (va_cwS 1 hts gX5_rules_X5_isPlace rfl rfl rfl (by decide +kernel) ⟨Nat.le_of_ble_eq_true rfl, Nat.le_of_ble_eq_true rfl⟩) (hP.sub [] rfl) hK hN rfl rfl hl.1 (Nat.le_of_ble_eq_true rfl) dX5_rules_1 ⟨Nat.zero_le _, Nat.zero_le _⟩ ?_
  refine lv_if_ne (tgt := 9) hx hb dX5_rules_4 (by decide) (fun c1 => ?_) (fun c1 => ?_)
  · skip
    refine lv_iload_n hx hb dX5_rules_9 rfl (lv_at hl 2 rfl) ?_
    refine lv_i2l hx hb dX5_rules_10 rfl ?_
    refine lv_lconst (v := 0) hx hb dX5_rules_11 (by decide) ?_
    refine lv_lconst (v := 1) hx hb dX5_rules_12 (by decide) ?_
    refine rcSi (As := [.long p1.toInt64, .long 0, .long 1]) (rest := []) hSF (kX5_in l D cI cZ cC p1.toInt64 0 1) (va_cwS 3 hts gX5_rules_X5_in rfl rfl rfl (by decide +kernel) ⟨Nat.le_of_ble_eq_true rfl, Nat.le_of_ble_eq_true rfl⟩) (hP.sub [] rfl) hK hN rfl rfl hl.1 (Nat.le_of_ble_eq_true rfl) dX5_rules_13 ⟨Nat.zero_le _, Nat.zero_le _⟩ ?_
    refine lv_if_ne (tgt := 22) hx hb dX5_rules_16 (by decide) (fun c2 => ?_) (fun c2 => ?_)
    · skip
      refine lv_aload_n hx hb dX5_rules_22 rfl (lv_at hl 0 rfl) ?_
      refine lv_iload_n hx hb dX5_rules_23 rfl (lv_at hl 1 rfl) ?_
      refine rcVi (b := hm) (As := [.int p0]) (rest := []) hSF (kX5_firstAt l D cI cZ cC hm am om p0) (cwV 1 hts gX5_rules_X5_firstAt rfl rfl rfl (by decide +kernel) ⟨Nat.le_of_ble_eq_true rfl, Nat.le_of_ble_eq_true rfl⟩) (va_recv hK hP (ci := 5) (q0 := 0) rfl rfl) (hP.sub [0, 1, 2, 3, 4, 5, 6, 7, 8, 9, 10, 11] rfl) hK hN rfl rfl hl.1 (Nat.le_of_ble_eq_true rfl) dX5_rules_24 ⟨Nat.zero_le _, Nat.zero_le _⟩ ?_
      refine lv_istore_n (lv' := [(3, .int (fX5_firstAt om p0)), (0, .ref hm), (1, .int p0), (2, .int p1)]) hx hb dX5_rules_27 rfl hl (by decide) rfl (fun ls hl => ?_)
      refine lv_iload_n hx hb dX5_rules_28 rfl (lv_at hl 0 rfl) ?_
      refine lv_sipush (v := 1000) hx hb dX5_rules_29 (by decide) ?_
      refine W_itei (P := (fX5_firstAt om p0) = 1000) (a := (-6)) (b := (if p1 = 0 then (fX5_rulersBy om p0) else (fX5_firstAt om p0))) (J := 53) (ls9 := ls) (rest9 := []) (fun ja4 jb4 => ?_) ?_
      · refine lv_icmp_ne (tgt := 40) hx hb dX5_rules_32 (by decide) (fun c3 => ?_) (fun c3 => ?_)
        · skip
          refine lv_iload_n hx hb dX5_rules_40 rfl (lv_at hl 3 rfl) ?_
          refine W_itei (P := p1 = 0) (a := (fX5_rulersBy om p0)) (b := (fX5_firstAt om p0)) (J := 53) (ls9 := ls) (rest9 := []) (fun ja6 jb6 => ?_) ?_
          · refine lv_if_ne (tgt := 52) hx hb dX5_rules_41 (by decide) (fun c5 => ?_) (fun c5 => ?_)
            · skip
              refine lv_iload_n hx hb dX5_rules_52 rfl (lv_at hl 0 rfl) ?_
              exact jb6 c5
            · skip
              refine lv_aload_n hx hb dX5_rules_44 rfl (lv_at hl 1 rfl) ?_
              refine lv_iload_n hx hb dX5_rules_45 rfl (lv_at hl 2 rfl) ?_
              refine rcVi (b := hm) (As := [.int p0]) (rest := []) hSF (kX5_rulersBy l D cI cZ cC hm am om p0) (cwV 1 hts gX5_rules_X5_rulersBy rfl rfl rfl (by decide +kernel) ⟨Nat.le_of_ble_eq_true rfl, Nat.le_of_ble_eq_true rfl⟩) (va_recv hK hP (ci := 5) (q0 := 0) rfl rfl) (hP.sub [0, 1, 2, 3, 4, 5, 6, 7, 8, 9, 10, 11] rfl) hK hN rfl rfl hl.1 (Nat.le_of_ble_eq_true rfl) dX5_rules_46 ⟨Nat.zero_le _, Nat.zero_le _⟩ ?_
              refine lv_goto (tgt := 53) hx hb dX5_rules_49 (by decide) ?_
              exact ja6 c5
          exact jb4 c3
        · skip
          refine lv_bipush (v := (-6)) hx hb dX5_rules_35 (by decide) ?_
          refine lv_goto (tgt := 53) hx hb dX5_rules_37 (by decide) ?_
          exact ja4 c3
      have e9 : fX5_rules om p0 p1 = (if (fX5_firstAt om p0) = 1000 then ((-6) : Int32) else (if p1 = 0 then (fX5_rulersBy om p0) else (fX5_firstAt om p0))) := by
        simp only [fX5_rules, if_neg c1, if_neg c2]
      exact W.iret hx hb hr (fun t ht hW => ⟨_, rfl, e9.symm, ht⟩) (fun _ h9 => absurd h9 List.not_mem_nil) dX5_rules_53
    · skip
      refine lv_bipush (v := (-2)) hx hb dX5_rules_19 (by decide) ?_
      have e9 : fX5_rules om p0 p1 = (-2) := by
        simp only [fX5_rules, if_neg c1, if_pos c2]
      exact W.iret hx hb hr (fun t ht hW => ⟨_, rfl, e9.symm, ht⟩) (fun _ h9 => absurd h9 List.not_mem_nil) dX5_rules_21
  · skip
    refine lv_iconst (v := (-1)) hx hb dX5_rules_7 (by decide) ?_
    have e9 : fX5_rules om p0 p1 = (-1) := by
      simp only [fX5_rules, if_pos c1]
    exact W.iret hx hb hr (fun t ht hW => ⟨_, rfl, e9.symm, ht⟩) (fun _ h9 => absurd h9 List.not_mem_nil) dX5_rules_8

set_option maxHeartbeats 4000000 in
set_option maxRecDepth 100000 in
theorem kX5_opens (l : Launch) (D : va_G) (cI cZ cC : ClassId) (hm : Nat) (am : Nat → Nat) (om : OV) (p0 : Int32) (p1 : Int32)  : Met l yX5_opens wsX5_opens ({ frames := 4, cells := 0, slots := 0, locals := 90 }) (pR D (tyv cI cZ cC) (wX5 cI cZ hm am om) [.ref hm, .int p0, .int p1]) (vp_Si (fun r => r = fX5_opens om p0 p1)) 0 0 (fun _ => False) := by
  refine Met.ofW (cc := cX5_opens) (maxL := 4) (ret := (some .int)) (by decide) rfl ?_
  intro p e s m args below meth c s₁ B hml hv
  obtain ⟨rfl, hP, hK, hN⟩ := hv
  have hx := B.exec
  have hb := B.bytes
  have hr := B.returns
  have hts := atoms_spec (ws := wsX5_opens) B.pre
  have hown : s.vm.findClass RX5 = some m.cls := findClass_of_methodNamed B.named
  have hlocks := B.notSynchronized
  have hP : va_P D vwCl (wX5 cI cZ hm am om) s.heap := hP
  have hl := lv_entry ([.ref hm, .int p0, .int p1]) (n := 4) (Nat.le_of_ble_eq_true rfl)
  rw [lg_entry_eq]
  generalize (lg_sl ([.ref hm, .int p0, .int p1]) ++ List.replicate (4 - (lg_sl ([.ref hm, .int p0, .int p1])).length) Slot.unset).toArray = ls at hl ⊢
  have hl : lv_has ls 4 [(0, .ref hm), (1, .int p0), (2, .int p1)] := hl
  have hSF : CallFix p m c cX5_opens 4 s _ wsX5_opens RX5 := ⟨hx, hb, hml, hown, hts⟩
  refine lv_aload_n hx hb dX5_opens_0 rfl (lv_at hl 0 rfl) ?_
  refine lv_iload_n hx hb dX5_opens_1 rfl (lv_at hl 1 rfl) ?_
  refine rcVi (b := hm) (As := [.int p0]) (rest := []) hSF (kX5_isThere l D cI cZ cC hm am om p0) (cwV 1 hts gX5_opens_X5_isThere rfl rfl rfl (by decide +kernel) ⟨Nat.le_of_ble_eq_true rfl, Nat.le_of_ble_eq_true rfl⟩) (va_recv hK hP (ci := 5) (q0 := 0) rfl rfl) (hP.sub [0, 1, 2, 3, 4, 5, 6, 7, 8, 9, 10, 11] rfl) hK hN rfl rfl hl.1 (Nat.le_of_ble_eq_true rfl) dX5_opens_2 ⟨Nat.zero_le _, Nat.zero_le _⟩ ?_
  refine lv_if_eq (tgt := 15) hx hb dX5_opens_5 (by decide) (fun c1 => ?_) (fun c1 => ?_)
  · skip
    refine lv_iconst (v := (-1)) hx hb dX5_opens_15 (by decide) ?_
    have e9 : fX5_opens om p0 p1 = (-1) := by
      simp only [fX5_opens, if_pos c1]
    exact W.iret hx hb hr (fun t ht hW => ⟨_, rfl, e9.symm, ht⟩) (fun _ h9 => absurd h9 List.not_mem_nil) dX5_opens_16
  · skip
    refine lv_iload_n hx hb dX5_opens_8 rfl (lv_at hl 2 rfl) ?_
    refine rcSi (As := [.int p1]) (rest := []) hSF (kX5_isPlace l D cI cZ cC p1) (va_cwS 1 hts gX5_opens_X5_isPlace rfl rfl rfl (by decide +kernel) ⟨Nat.le_of_ble_eq_true rfl, Nat.le_of_ble_eq_true rfl⟩) (hP.sub [] rfl) hK hN rfl rfl hl.1 (Nat.le_of_ble_eq_true rfl) dX5_opens_9 ⟨Nat.zero_le _, Nat.zero_le _⟩ ?_
    refine lv_if_ne (tgt := 17) hx hb dX5_opens_12 (by decide) (fun c2 => ?_) (fun c2 => ?_)
    · skip
      refine lv_aload_n hx hb dX5_opens_17 rfl (lv_at hl 0 rfl) ?_
      refine lv_iload_n hx hb dX5_opens_18 rfl (lv_at hl 1 rfl) ?_
      refine lv_iload_n hx hb dX5_opens_19 rfl (lv_at hl 2 rfl) ?_
      refine rcVi (b := hm) (As := [.int p0, .int p1]) (rest := []) hSF (kX5_opensAt l D cI cZ cC hm am om p0 p1) (cwV 2 hts gX5_opens_X5_opensAt rfl rfl rfl (by decide +kernel) ⟨Nat.le_of_ble_eq_true rfl, Nat.le_of_ble_eq_true rfl⟩) (va_recv hK hP (ci := 5) (q0 := 0) rfl rfl) (hP.sub [0, 1, 2, 3, 4, 5, 6, 7, 8, 9, 10, 11] rfl) hK hN rfl rfl hl.1 (Nat.le_of_ble_eq_true rfl) dX5_opens_20 ⟨Nat.zero_le _, Nat.zero_le _⟩ ?_
      refine lv_istore_n (lv' := [(3, .int (fX5_opensAt om p0 p1)), (0, .ref hm), (1, .int p0), (2, .int p1)]) hx hb dX5_opens_23 rfl hl (by decide) rfl (fun ls hl => ?_)
      refine lv_iload_n hx hb dX5_opens_24 rfl (lv_at hl 0 rfl) ?_
      refine lv_sipush (v := 1000) hx hb dX5_opens_25 (by decide) ?_
      refine W_itei (P := (fX5_opensAt om p0 p1) = 1000) (a := (-6)) (b := (fX5_opensAt om p0 p1)) (J := 37) (ls9 := ls) (rest9 := []) (fun ja4 jb4 => ?_) ?_
      · refine lv_icmp_ne (tgt := 36) hx hb dX5_opens_28 (by decide) (fun c3 => ?_) (fun c3 => ?_)
        · skip
          refine lv_iload_n hx hb dX5_opens_36 rfl (lv_at hl 0 rfl) ?_
          exact jb4 c3
        · skip
          refine lv_bipush (v := (-6)) hx hb dX5_opens_31 (by decide) ?_
          refine lv_goto (tgt := 37) hx hb dX5_opens_33 (by decide) ?_
          exact ja4 c3
      have e9 : fX5_opens om p0 p1 = (if (fX5_opensAt om p0 p1) = 1000 then ((-6) : Int32) else (fX5_opensAt om p0 p1)) := by
        simp only [fX5_opens, if_neg c1, if_neg c2]
      exact W.iret hx hb hr (fun t ht hW => ⟨_, rfl, e9.symm, ht⟩) (fun _ h9 => absurd h9 List.not_mem_nil) dX5_opens_37
    · skip
      refine lv_iconst (v := (-1)) hx hb dX5_opens_15 (by decide) ?_
      have e9 : fX5_opens om p0 p1 = (-1) := by
        simp only [fX5_opens, if_neg c1, if_pos c2]
      exact W.iret hx hb hr (fun t ht hW => ⟨_, rfl, e9.symm, ht⟩) (fun _ h9 => absurd h9 List.not_mem_nil) dX5_opens_16

set_option maxHeartbeats 4000000 in
set_option maxRecDepth 100000 in
theorem kX5_never (l : Launch) (D : va_G) (cI cZ cC : ClassId) (hm : Nat) (am : Nat → Nat) (om : OV)   : Met l yX5_never wsX5_never ({ frames := 6, cells := 0, slots := 0, locals := 138 }) (pR D (tyv cI cZ cC) (wX5 cI cZ hm am om) [.ref hm]) (vp_Si (fun r => r = fX5_never om)) 0 0 (fun _ => False) := by
  refine Met.ofW (cc := cX5_never) (maxL := 3) (ret := (some .int)) (by decide) rfl ?_
  intro p e s m args below meth c s₁ B hml hv
  obtain ⟨rfl, hP, hK, hN⟩ := hv
  have hx := B.exec
  have hb := B.bytes
  have hr := B.returns
  have hts := atoms_spec (ws := wsX5_never) B.pre
  have hown : s.vm.findClass RX5 = some m.cls := findClass_of_methodNamed B.named
  have hlocks := B.notSynchronized
  have hP : va_P D vwCl (wX5 cI cZ hm am om) s.heap := hP
  have hl := lv_entry ([.ref hm]) (n := 3) (Nat.le_of_ble_eq_true rfl)
  rw [lg_entry_eq]
  generalize (lg_sl ([.ref hm]) ++ List.replicate (3 - (lg_sl ([.ref hm])).length) Slot.unset).toArray = ls at hl ⊢
  have hl : lv_has ls 3 [(0, .ref hm)] := hl
  have hSF : CallFix p m c cX5_never 3 s _ wsX5_never RX5 := ⟨hx, hb, hml, hown, hts⟩
  have hi5 : ∀ w ∈ wsX50, w ∈ wsX5_never := by decide +kernel
  have hf63 : (Cond.fieldLink RX5 63 "UmbrellaVoteModel" "there" "I").before _ s = true := hts _ (by decide +kernel)
  refine lv_iconst (v := 0) hx hb dX5_never_0 (by decide) ?_
  refine lv_istore_n (lv' := [(1, .int 0), (0, .ref hm)]) hx hb dX5_never_1 rfl hl (by decide) rfl (fun ls hl => ?_)
  refine lv_iconst (v := 0) hx hb dX5_never_2 (by decide) ?_
  refine lv_istore_n (lv' := [(2, .int 0), (1, .int 0), (0, .ref hm)]) hx hb dX5_never_3 rfl hl (by decide) rfl (fun ls hl => ?_)
  refine W_lpR (10) (fun k9 ls9 => lv_has ls9 3 [(2, .int (nI k9)), (1, .int (fX5_never_L4 om 0 k9)), (0, .ref hm)]) (lv_sub hl [0, 1, 2] rfl) ?_ ?_
  · intro k1 ls hk1 hl ih1
    generalize hs1 : fX5_never_L4 om 0 k1 = y1 at hl
    obtain ⟨x1_1, en1⟩ : ∃ z, z = y1 := ⟨_, rfl⟩
    subst en1
    refine lv_iload_n hx hb dX5_never_4 rfl (lv_at hl 0 rfl) ?_
    refine lv_bipush (v := 10) hx hb dX5_never_5 (by decide) ?_
    refine lv_icmp_ge (tgt := 24) hx hb dX5_never_7 (by decide) (fun c2 => absurd c2 (nI_ge hk1 (by decide))) (fun c2 => ?_)
    refine lv_iload_n hx hb dX5_never_10 rfl (lv_at hl 1 rfl) ?_
    refine lv_aload_n hx hb dX5_never_11 rfl (lv_at hl 2 rfl) ?_
    refine lv_iload_n hx hb dX5_never_12 rfl (lv_at hl 0 rfl) ?_
    refine rcVi (b := hm) (As := [.int (nI k1)]) (rest := [.int x1_1]) hSF (kX5_rulersBy l D cI cZ cC hm am om (nI k1)) (cwV 1 hts gX5_never_X5_rulersBy rfl rfl rfl (by decide +kernel) ⟨Nat.le_of_ble_eq_true rfl, Nat.le_of_ble_eq_true rfl⟩) (va_recv hK hP (ci := 5) (q0 := 0) rfl rfl) (hP.sub [0, 1, 2, 3, 4, 5, 6, 7, 8, 9, 10, 11] rfl) hK hN rfl rfl hl.1 (Nat.le_of_ble_eq_true rfl) dX5_never_13 ⟨Nat.zero_le _, Nat.zero_le _⟩ ?_
    refine lv_ior hx hb dX5_never_16 ?_
    refine lv_istore_n (lv' := [(1, .int (x1_1 ||| (fX5_rulersBy om (nI k1)))), (2, .int (nI k1)), (0, .ref hm)]) hx hb dX5_never_17 rfl hl (by decide) rfl (fun ls hl => ?_)
    refine lv_iinc (v := ((nI k1) + 1)) (lv' := [(2, .int ((nI k1) + 1)), (1, .int (x1_1 ||| (fX5_rulersBy om (nI k1)))), (0, .ref hm)]) hx hb dX5_never_18 hl (k := 1) rfl rfl (by decide) rfl (fun ls hl => ?_)
    refine lv_goto (tgt := 4) hx hb dX5_never_21 (by decide) ?_
    have e8 : fX5_never_L4s om k1 x1_1 = (x1_1 ||| (fX5_rulersBy om (nI k1))) := by
      rfl
    have e7 : fX5_never_L4 om 0 (k1 + 1) = (x1_1 ||| (fX5_rulersBy om (nI k1))) := by
      show fX5_never_L4s om k1 (fX5_never_L4 om 0 k1) = _
      rw [hs1]; exact e8
    have hl9 : lv_has ls 3 [(2, .int (nI (k1 + 1))), (1, .int (fX5_never_L4 om 0 (k1 + 1))), (0, .ref hm)] := by
      rw [nI_succ, e7]; exact lv_sub hl [0, 1, 2] rfl
    exact ih1 ls hl9
  intro ls hl
  refine lv_iload_n hx hb dX5_never_4 rfl (lv_at hl 0 rfl) ?_
  refine lv_bipush (v := 10) hx hb dX5_never_5 (by decide) ?_
  refine lv_icmp_ge (tgt := 24) hx hb dX5_never_7 (by decide) (fun c3 => ?_) (fun c3 => absurd (nI_le (Nat.le_refl _) (by decide)) c3)
  refine lv_aload_n hx hb dX5_never_24 rfl (lv_at hl 2 rfl) ?_
  refine va_get (D := D) (ci := 5) (v := .int (om.1 0)) (C := RX5) (T := TX5) (N := 24) hx hb hts hi5 hown hK hP 0 rfl rfl 0 (by decide) hf63 (fun _ h9 => h9) rfl dX5_never_25 ?_
  refine lv_iload_n hx hb dX5_never_28 rfl (lv_at hl 1 rfl) ?_
  refine lv_iconst (v := (-1)) hx hb dX5_never_29 (by decide) ?_
  refine lv_ixor hx hb dX5_never_30 ?_
  refine lv_iand hx hb dX5_never_31 ?_
  have e9 : fX5_never om = ((om.1 0) &&& ((fX5_never_L4 om 0 (10)) ^^^ (-1))) := by
    rfl
  exact W.iret hx hb hr (fun t ht hW => ⟨_, rfl, e9.symm, ht⟩) (fun _ h9 => absurd h9 List.not_mem_nil) dX5_never_32

