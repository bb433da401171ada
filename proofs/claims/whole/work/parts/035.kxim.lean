theorem wi2 {x : Int32} (h : ¬ fX4_within x 0 1 = 0) : vp_in x 2 := wi_in h (by decide)
set_option maxHeartbeats 4000000 in
set_option maxRecDepth 100000 in
theorem kX4_image_bad (l : Launch) (D : va_G) (cI cZ cC : ClassId) (hq hc hu hi hg hy hw : Nat) (p0 : Int32) (h9 : fX4_within p0 0 1 = 0) : Met l yX4_image wsX4_image ({ frames := 1, cells := 0, slots := 0, locals := 22 }) (pR D (tyv cI cZ cC) ([]) [.ref hq, .int p0]) (vp_Si (fun r => r = -2)) 0 0 (fun _ => False) := by
  refine Met.ofW (cc := cX4_image) (maxL := 3) (ret := (some .int)) (by decide) rfl ?_
  intro p e s m args below meth c s₁ B hml hv
  obtain ⟨rfl, hP, hK, hN⟩ := hv
  have hx := B.exec
  have hb := B.bytes
  have hr := B.returns
  have hts := atoms_spec (ws := wsX4_image) B.pre
  have hown : s.vm.findClass RX4 = some m.cls := findClass_of_methodNamed B.named
  have hlocks := B.notSynchronized
  have hP : va_P D vwCl ([]) s.heap := hP
  have hl := lv_entry ([.ref hq, .int p0]) (n := 3) (Nat.le_of_ble_eq_true rfl)
  rw [lg_entry_eq]
  generalize (lg_sl ([.ref hq, .int p0]) ++ List.replicate (3 - (lg_sl ([.ref hq, .int p0])).length) Slot.unset).toArray = ls at hl ⊢
  have hl : lv_has ls 3 [(0, .ref hq), (1, .int p0)] := hl
  have hSF : CallFix p m c cX4_image 3 s _ wsX4_image RX4 := ⟨hx, hb, hml, hown, hts⟩
  refine lv_iload_n hx hb dX4_image_0 rfl (lv_at hl 1 rfl) ?_
  refine lv_iconst (v := 0) hx hb dX4_image_1 (by decide) ?_
  refine lv_iconst (v := 1) hx hb dX4_image_2 (by decide) ?_
  refine rcSi (As := [.int p0, .int 0, .int 1]) (rest := []) hSF (kX4_within l D cI cZ cC p0 0 1) (va_cwS 3 hts gX4_image_X4_within rfl rfl rfl (by decide +kernel) ⟨Nat.le_of_ble_eq_true rfl, Nat.le_of_ble_eq_true rfl⟩) (hP.sub [] rfl) hK hN rfl rfl hl.1 (Nat.le_of_ble_eq_true rfl) dX4_image_3 ⟨Nat.zero_le _, Nat.zero_le _⟩ ?_
  refine lv_if_ne (tgt := 12) hx hb dX4_image_6 (by decide) (fun c => absurd h9 c) (fun c => ?_)
  refine lv_bipush (v := -2) hx hb dX4_image_9 (by decide) ?_
  exact W.iret hx hb hr (fun t ht hW => ⟨_, rfl, rfl, ht⟩) (fun _ h9 => absurd h9 List.not_mem_nil) dX4_image_11

set_option maxHeartbeats 4000000 in
set_option maxRecDepth 100000 in
theorem kX4_image_some (l : Launch) (D : va_G) (cI cZ cC : ClassId) (hq hc hu hi hg hy hw : Nat) (ac : Nat → Nat) (oc : OV) (f : Nat → Option Nat) (hk : Nat) (ak : Nat → Nat) (ok : OV) (p0 : Int32) (h9 : ¬ fX4_within p0 0 1 = 0) (hf9 : f p0.toNatClampNeg = some hk) {sz : Nat} : Met l yX4_image wsX4_image ({ frames := 2, cells := 0, slots := 0, locals := 81 }) (pW D (tyv cI cZ cC) (wX4 hq hc hu hi hg hy hw ++ wX0 cI hc ac oc ++ wXi cC hi f ++ wX0 cI hk ak ok) sz [.ref hq, .int p0]) (va_Qi (fun r (u : OV) => r = 1 ∧ u = fX0_copyFrom ok oc) (qW D (fun (u : OV) => wX4 hq hc hu hi hg hy hw ++ wX0 cI hc ac oc ++ wXi cC hi f ++ wX0 cI hk ak u) (va_A (wX4 hq hc hu hi hg hy hw ++ wX0 cI hc ac oc ++ wXi cC hi f ++ wX0 cI hk ak ok) sz)) (va_A (wX4 hq hc hu hi hg hy hw ++ wX0 cI hc ac oc ++ wXi cC hi f ++ wX0 cI hk ak ok) sz)) 0 0 (va_A (wX4 hq hc hu hi hg hy hw ++ wX0 cI hc ac oc ++ wXi cC hi f ++ wX0 cI hk ak ok) sz) := by
  refine Met.ofW (cc := cX4_image) (maxL := 3) (ret := (some .int)) (by decide) rfl ?_
  intro p e s m args below meth c s₁ B hml hv
  obtain ⟨rfl, hsz, hP, hK, hN, hD0⟩ := hv
  have hx := B.exec
  have hb := B.bytes
  have hr := B.returns
  have hts := atoms_spec (ws := wsX4_image) B.pre
  have hown : s.vm.findClass RX4 = some m.cls := findClass_of_methodNamed B.named
  have hlocks := B.notSynchronized
  subst hsz
  have hD := hD0.self (sz := s.heap.size)
  generalize hAe : va_A (wX4 hq hc hu hi hg hy hw ++ wX0 cI hc ac oc ++ wXi cC hi f ++ wX0 cI hk ak ok) s.heap.size = A at hD ⊢
  have hA : ∀ q : Nat, s.heap.size ≤ q → A q := fun q h => by rw [← hAe]; exact Or.inr h
  have hS : va_S A s.heap s.heap [] := va_S.rf
  have hP : va_P D vwCl (wX4 hq hc hu hi hg hy hw ++ wX0 cI hc ac oc ++ wXi cC hi f ++ wX0 cI hk ak ok) s.heap := hP
  have hl := lv_entry ([.ref hq, .int p0]) (n := 3) (Nat.le_of_ble_eq_true rfl)
  rw [lg_entry_eq]
  generalize (lg_sl ([.ref hq, .int p0]) ++ List.replicate (3 - (lg_sl ([.ref hq, .int p0])).length) Slot.unset).toArray = ls at hl ⊢
  have hl : lv_has ls 3 [(0, .ref hq), (1, .int p0)] := hl
  have hSF : CallFix p m c cX4_image 3 s _ wsX4_image RX4 := ⟨hx, hb, hml, hown, hts⟩
  have hi4 : ∀ w ∈ wsX40, w ∈ wsX4_image := by decide +kernel
  have hf19 : (Cond.fieldLink RX4 19 "UmbrellaVote" "images" "[LUmbrellaVote$City;").before _ s = true := hts _ (by decide +kernel)
  have hf10 : (Cond.fieldLink RX4 10 "UmbrellaVote" "city" "LUmbrellaVote$City;").before _ s = true := hts _ (by decide +kernel)
  refine lv_iload_n hx hb dX4_image_0 rfl (lv_at hl 1 rfl) ?_
  refine lv_iconst (v := 0) hx hb dX4_image_1 (by decide) ?_
  refine lv_iconst (v := 1) hx hb dX4_image_2 (by decide) ?_
  refine rcSi (As := [.int p0, .int 0, .int 1]) (rest := []) hSF (kX4_within l D cI cZ cC p0 0 1) (va_cwS 3 hts gX4_image_X4_within rfl rfl rfl (by decide +kernel) ⟨Nat.le_of_ble_eq_true rfl, Nat.le_of_ble_eq_true rfl⟩) (hP.sub [] rfl) hK hN rfl rfl hl.1 (Nat.le_of_ble_eq_true rfl) dX4_image_3 ⟨Nat.zero_le _, Nat.zero_le _⟩ ?_
  refine lv_if_ne (tgt := 12) hx hb dX4_image_6 (by decide) (fun c => ?_) (fun c => absurd c h9)
  refine lv_aload_n hx hb dX4_image_12 rfl (lv_at hl 0 rfl) ?_
  refine va_get (D := D) (ci := 4) (v := .ref hi) (C := RX4) (T := TX4) (N := 6) hx hb hts hi4 hown hK hP 0 rfl rfl 2 (by decide) hf19 (fun _ h9 => h9) rfl dX4_image_13 ?_
  refine lv_iload_n hx hb dX4_image_16 rfl (lv_at hl 1 rfl) ?_
  refine va_aldq (f := f) hx hb hK hP 7 2 rfl rfl (wi2 h9) dX4_image_17 ?_
  rw [show va_rf (f p0.toNatClampNeg) = .ref hk by rw [hf9]; rfl]
  refine lv_astore_n (lv' := [(2, .ref hk), (0, .ref hq), (1, .int p0)]) hx hb dX4_image_18 rfl hl (by decide) rfl (fun ls hl => ?_)
  refine lv_aload_n hx hb dX4_image_19 rfl (lv_at hl 0 rfl) ?_
  refine lv_ifnonnull (tgt := 38) hx hb dX4_image_20 (by decide) ?_
  refine lv_aload_n hx hb dX4_image_38 rfl (lv_at hl 0 rfl) ?_
  refine lv_aload_n hx hb dX4_image_39 rfl (lv_at hl 1 rfl) ?_
  refine va_get (D := D) (ci := 4) (v := .ref hc) (C := RX4) (T := TX4) (N := 6) hx hb hts hi4 hown hK hP 0 rfl rfl 0 (by decide) hf10 (fun _ h9 => h9) rfl dX4_image_40 ?_
  refine wcVv (b := hk) (As := [.ref hc]) (rest := []) (wr := [(hq, .inr (4, [.ref hc, .ref hu, .ref hi, .ref hg, .ref hy, .ref hw])), (hi, .inl (cC, 2, .inr (.inr (.inr (.inr f)))))]) (ws' := wX4 hq hc hu hi hg hy hw ++ wX0 cI hc ac oc ++ wXi cC hi f ++ wX0 cI hk ak (fX0_copyFrom ok oc)) hSF (kX0_copyFrom l D cI cZ cC hk ak ok hc ac oc) (cwV 1 hts gX4_image_X0_copyFrom rfl rfl rfl (by decide +kernel) ⟨Nat.le_of_ble_eq_true rfl, Nat.le_of_ble_eq_true rfl⟩) (va_recv hK hP (ci := 0) (q0 := 8) rfl rfl) hP hD hS hA hK hN [8, 9, 10, 11, 12, 13, 1, 2, 3, 4, 5, 6] [0, 7] [0, 8, 9, 10, 11, 12, 13, 1, 2, 3, 4, 5, 6, 7] rfl (by decide) rfl (by decide) (by decide) rfl (by decide) rfl rfl hl.1 (Nat.le_of_ble_eq_true rfl) dX4_image_43 ⟨Nat.le_of_ble_eq_true rfl, Nat.le_of_ble_eq_true rfl⟩ (fun H locs hP hD hS => ?_)
  refine lv_iconst (v := 1) hx hb dX4_image_46 (by decide) ?_
  exact W.iret hx hb hr (fun t ht hW => ⟨⟨_, fX0_copyFrom ok oc, rfl, ⟨rfl, rfl⟩, ⟨by rw [ht]; exact hP, hD⟩⟩, hS.F ht⟩) hS.2.2 dX4_image_47

set_option maxHeartbeats 4000000 in
set_option maxRecDepth 100000 in
theorem kX4_image_none (l : Launch) (D : va_G) (cI cZ cC : ClassId) (hq hc hu hi hg hy hw : Nat) (ac : Nat → Nat) (oc : OV) (f : Nat → Option Nat) (p0 : Int32) (h9 : ¬ fX4_within p0 0 1 = 0) (hf9 : f p0.toNatClampNeg = none) {sz : Nat} : Met l yX4_image wsX4_image ({ frames := 2, cells := 6, slots := 46, locals := 81 }) (pW D (tyv cI cZ cC) (wX4 hq hc hu hi hg hy hw ++ wX0 cI hc ac oc ++ wXi cC hi f) sz [.ref hq, .int p0]) (va_Qi (fun r (u : Nat × (Nat → Nat)) => r = 1) (qW D (fun (u : Nat × (Nat → Nat)) => wX4 hq hc hu hi hg hy hw ++ wX0 cI hc ac oc ++ wXi cC hi (va_up f p0.toNatClampNeg (some u.1)) ++ wX0 cI u.1 u.2 (fX0_copyFrom iX0 oc)) (va_A (wX4 hq hc hu hi hg hy hw ++ wX0 cI hc ac oc ++ wXi cC hi f) sz)) (va_A (wX4 hq hc hu hi hg hy hw ++ wX0 cI hc ac oc ++ wXi cC hi f) sz)) 6 46 (va_A (wX4 hq hc hu hi hg hy hw ++ wX0 cI hc ac oc ++ wXi cC hi f) sz) := by
  refine Met.ofW (cc := cX4_image) (maxL := 3) (ret := (some .int)) (by decide) rfl ?_
  intro p e s m args below meth c s₁ B hml hv
  obtain ⟨rfl, hsz, hP, hK, hN, hD0⟩ := hv
  have hx := B.exec
  have hb := B.bytes
  have hr := B.returns
  have hts := atoms_spec (ws := wsX4_image) B.pre
  have hown : s.vm.findClass RX4 = some m.cls := findClass_of_methodNamed B.named
  have hlocks := B.notSynchronized
  subst hsz
  have hD := hD0.self (sz := s.heap.size)
  generalize hAe : va_A (wX4 hq hc hu hi hg hy hw ++ wX0 cI hc ac oc ++ wXi cC hi f) s.heap.size = A at hD ⊢
  have hA : ∀ q : Nat, s.heap.size ≤ q → A q := fun q h => by rw [← hAe]; exact Or.inr h
  have hS : va_S A s.heap s.heap [] := va_S.rf
  have hP : va_P D vwCl (wX4 hq hc hu hi hg hy hw ++ wX0 cI hc ac oc ++ wXi cC hi f) s.heap := hP
  have hl := lv_entry ([.ref hq, .int p0]) (n := 3) (Nat.le_of_ble_eq_true rfl)
  rw [lg_entry_eq]
  generalize (lg_sl ([.ref hq, .int p0]) ++ List.replicate (3 - (lg_sl ([.ref hq, .int p0])).length) Slot.unset).toArray = ls at hl ⊢
  have hl : lv_has ls 3 [(0, .ref hq), (1, .int p0)] := hl
  have hSF : CallFix p m c cX4_image 3 s _ wsX4_image RX4 := ⟨hx, hb, hml, hown, hts⟩
  have hi4 : ∀ w ∈ wsX40, w ∈ wsX4_image := by decide +kernel
  have hf19 : (Cond.fieldLink RX4 19 "UmbrellaVote" "images" "[LUmbrellaVote$City;").before _ s = true := hts _ (by decide +kernel)
  have hf10 : (Cond.fieldLink RX4 10 "UmbrellaVote" "city" "LUmbrellaVote$City;").before _ s = true := hts _ (by decide +kernel)
  have hi0 : ∀ w ∈ wsX00, w ∈ wsX4_image := by decide +kernel
  refine lv_iload_n hx hb dX4_image_0 rfl (lv_at hl 1 rfl) ?_
  refine lv_iconst (v := 0) hx hb dX4_image_1 (by decide) ?_
  refine lv_iconst (v := 1) hx hb dX4_image_2 (by decide) ?_
  refine rcSi (As := [.int p0, .int 0, .int 1]) (rest := []) hSF (kX4_within l D cI cZ cC p0 0 1) (va_cwS 3 hts gX4_image_X4_within rfl rfl rfl (by decide +kernel) ⟨Nat.le_of_ble_eq_true rfl, Nat.le_of_ble_eq_true rfl⟩) (hP.sub [] rfl) hK hN rfl rfl hl.1 (Nat.le_of_ble_eq_true rfl) dX4_image_3 ⟨Nat.zero_le _, Nat.zero_le _⟩ ?_
  refine lv_if_ne (tgt := 12) hx hb dX4_image_6 (by decide) (fun c => ?_) (fun c => absurd c h9)
  refine lv_aload_n hx hb dX4_image_12 rfl (lv_at hl 0 rfl) ?_
  refine va_get (D := D) (ci := 4) (v := .ref hi) (C := RX4) (T := TX4) (N := 6) hx hb hts hi4 hown hK hP 0 rfl rfl 2 (by decide) hf19 (fun _ h9 => h9) rfl dX4_image_13 ?_
  refine lv_iload_n hx hb dX4_image_16 rfl (lv_at hl 1 rfl) ?_
  refine va_aldq (f := f) hx hb hK hP 7 2 rfl rfl (wi2 h9) dX4_image_17 ?_
  rw [show va_rf (f p0.toNatClampNeg) = .null by rw [hf9]; rfl]
  refine lv_astore_nN (lv' := [(2, .null), (0, .ref hq), (1, .int p0)]) hx hb dX4_image_18 rfl hl (by decide) rfl (fun ls hl => ?_)
  refine lv_aload_nN hx hb dX4_image_19 rfl (lv_at hl 0 rfl) ?_
  refine lv_ifnonnullN hx hb dX4_image_20 ?_
  refine va_new (ci := 0) (fs := [.int 0, .int 0, .int 0, .int 0, .int 0, .int 0, .int 0, .null, .null, .null, .null, .null]) (C := RX0) (T := TX0) (N := 12) hx hb hts hi0 tyX0 tyX0_ok hown (hts (.classLink RX4 7 RX0) (by decide +kernel)) (hts (.instantiable RX0 12) (by decide +kernel)) (hts (.initialized RX0) (by decide +kernel)) hK hP hD hS hA rfl (fun j hj => by rcases (show j = 0 ∨ j = 1 ∨ j = 2 ∨ j = 3 ∨ j = 4 ∨ j = 5 ∨ j = 6 ∨ j = 7 ∨ j = 8 ∨ j = 9 ∨ j = 10 ∨ j = 11 by omega) with rfl | rfl | rfl | rfl | rfl | rfl | rfl | rfl | rfl | rfl | rfl | rfl <;> rfl) (Nat.le_of_ble_eq_true rfl) (Nat.le_of_ble_eq_true rfl) dX4_image_23 (fun q H hP hD hS => ?_)
  refine W.widen (k := 1) (n := 12) (by omega) (by omega) ?_
  refine lv_dup hx hb dX4_image_26 rfl ?_
  refine wcIv (b := q) (As := []) (rest := [.ref q]) (wr := [(hq, .inr (4, [.ref hc, .ref hu, .ref hi, .ref hg, .ref hy, .ref hw])), (hc, .inr (0, [.int (oc.1 0), .int (oc.1 1), .int (oc.1 2), .int (oc.1 3), .int (oc.1 4), .int (oc.1 5), .int (oc.1 6), .ref (ac 7), .ref (ac 8), .ref (ac 9), .ref (ac 10), .ref (ac 11)])), (ac 7, .inl (cI, 6, .inl (oc.2 7))), (ac 8, .inl (cI, 6, .inl (oc.2 8))), (ac 9, .inl (cI, 10, .inl (oc.2 9))), (ac 10, .inl (cI, 6, .inl (oc.2 10))), (ac 11, .inl (cI, 6, .inl (oc.2 11))), (hi, .inl (cC, 2, .inr (.inr (.inr (.inr f)))))]) hSF (kX0_init l D cI cZ cC q) (cwI 0 hts gX4_image_X0_init rfl rfl rfl (hts (.initialized RX0) (by decide +kernel)) (hts (.methodLink RX4 9 yX0_init) (by decide +kernel)) (hts (.instanceMethod yX0_init) (by decide +kernel)) rfl (by decide +kernel) ⟨Nat.le_of_ble_eq_true rfl, Nat.le_of_ble_eq_true rfl⟩) hP hD hS hA hK hN [8] [0, 1, 2, 3, 4, 5, 6, 7] rfl (by decide) rfl (by decide) (by decide) rfl rfl hl.1 (Nat.le_of_ble_eq_true rfl) dX4_image_27 ⟨Nat.le_of_ble_eq_true rfl, Nat.le_of_ble_eq_true rfl⟩ (fun u9 H locs hw9 hP hD hS => ?_)
  obtain ⟨ak, o9⟩ := u9
  obtain rfl : o9 = iX0 := hw9
  have hP : va_P D vwCl (wX4 hq hc hu hi hg hy hw ++ wX0 cI hc ac oc ++ wXi cC hi f ++ wX0 cI q ak iX0) H := hP
  have hD : va_D A (wX4 hq hc hu hi hg hy hw ++ wX0 cI hc ac oc ++ wXi cC hi f ++ wX0 cI q ak iX0) := hD
  refine W.widen (k := 6) (n := 46) (by omega) (by omega) ?_
  refine lv_astore_n (lv' := [(2, .ref q), (0, .ref hq), (1, .int p0)]) hx hb dX4_image_30 rfl hl (by decide) rfl (fun ls hl => ?_)
  refine lv_aload_n hx hb dX4_image_31 rfl (lv_at hl 1 rfl) ?_
  refine va_get (D := D) (ci := 4) (v := .ref hi) (C := RX4) (T := TX4) (N := 6) hx hb hts hi4 hown hK hP 0 rfl rfl 2 (by decide) hf19 (fun _ h9 => h9) rfl dX4_image_32 ?_
  refine lv_iload_n hx hb dX4_image_35 rfl (lv_at hl 2 rfl) ?_
  refine lv_aload_n hx hb dX4_image_36 rfl (lv_at hl 0 rfl) ?_
  refine va_astq hx hb hK hP hD hS 7 2 8 0 rfl rfl rfl rfl (wi2 h9) dX4_image_37 (fun H locs hP hD hS => ?_)
  have hP : va_P D vwCl (wX4 hq hc hu hi hg hy hw ++ wX0 cI hc ac oc ++ wXi cC hi (va_up f p0.toNatClampNeg (some q)) ++ wX0 cI q ak iX0) H := hP
  have hD : va_D A (wX4 hq hc hu hi hg hy hw ++ wX0 cI hc ac oc ++ wXi cC hi (va_up f p0.toNatClampNeg (some q)) ++ wX0 cI q ak iX0) := hD
  refine lv_aload_n hx hb dX4_image_38 rfl (lv_at hl 0 rfl) ?_
  refine lv_aload_n hx hb dX4_image_39 rfl (lv_at hl 1 rfl) ?_
  refine va_get (D := D) (ci := 4) (v := .ref hc) (C := RX4) (T := TX4) (N := 6) hx hb hts hi4 hown hK hP 0 rfl rfl 0 (by decide) hf10 (fun _ h9 => h9) rfl dX4_image_40 ?_
  refine wcVv (b := q) (As := [.ref hc]) (rest := []) (wr := [(hq, .inr (4, [.ref hc, .ref hu, .ref hi, .ref hg, .ref hy, .ref hw])), (hi, .inl (cC, 2, .inr (.inr (.inr (.inr (va_up f p0.toNatClampNeg (some q)))))))]) (ws' := wX4 hq hc hu hi hg hy hw ++ wX0 cI hc ac oc ++ wXi cC hi (va_up f p0.toNatClampNeg (some q)) ++ wX0 cI q ak (fX0_copyFrom iX0 oc)) hSF (kX0_copyFrom l D cI cZ cC q ak iX0 hc ac oc) (cwV 1 hts gX4_image_X0_copyFrom rfl rfl rfl (by decide +kernel) ⟨Nat.le_of_ble_eq_true rfl, Nat.le_of_ble_eq_true rfl⟩) (va_recv hK hP (ci := 0) (q0 := 8) rfl rfl) hP hD hS hA hK hN [8, 9, 10, 11, 12, 13, 1, 2, 3, 4, 5, 6] [0, 7] [0, 8, 9, 10, 11, 12, 13, 1, 2, 3, 4, 5, 6, 7] rfl (by decide) rfl (by decide) (by decide) rfl (by decide) rfl rfl hl.1 (Nat.le_of_ble_eq_true rfl) dX4_image_43 ⟨Nat.le_of_ble_eq_true rfl, Nat.le_of_ble_eq_true rfl⟩ (fun H locs hP hD hS => ?_)
  refine lv_iconst (v := 1) hx hb dX4_image_46 (by decide) ?_
  exact W.iret hx hb hr (fun t ht hW => ⟨⟨_, (q, ak), rfl, rfl, ⟨by rw [ht]; exact hP, hD⟩⟩, hS.F ht⟩) hS.2.2 dX4_image_47

set_option maxHeartbeats 4000000 in
set_option maxRecDepth 100000 in
theorem kX4_restore_bad (l : Launch) (D : va_G) (cI cZ cC : ClassId) (hq hc hu hi hg hy hw : Nat) (p0 : Int32) (h9 : fX4_within p0 0 1 = 0) : Met l yX4_restore wsX4_restore ({ frames := 1, cells := 0, slots := 0, locals := 22 }) (pR D (tyv cI cZ cC) ([]) [.ref hq, .int p0]) (vp_Si (fun r => r = -2)) 0 0 (fun _ => False) := by
  refine Met.ofW (cc := cX4_restore) (maxL := 3) (ret := (some .int)) (by decide) rfl ?_
  intro p e s m args below meth c s₁ B hml hv
  obtain ⟨rfl, hP, hK, hN⟩ := hv
  have hx := B.exec
  have hb := B.bytes
  have hr := B.returns
  have hts := atoms_spec (ws := wsX4_restore) B.pre
  have hown : s.vm.findClass RX4 = some m.cls := findClass_of_methodNamed B.named
  have hlocks := B.notSynchronized
  have hP : va_P D vwCl ([]) s.heap := hP
  have hl := lv_entry ([.ref hq, .int p0]) (n := 3) (Nat.le_of_ble_eq_true rfl)
  rw [lg_entry_eq]
  generalize (lg_sl ([.ref hq, .int p0]) ++ List.replicate (3 - (lg_sl ([.ref hq, .int p0])).length) Slot.unset).toArray = ls at hl ⊢
  have hl : lv_has ls 3 [(0, .ref hq), (1, .int p0)] := hl
  have hSF : CallFix p m c cX4_restore 3 s _ wsX4_restore RX4 := ⟨hx, hb, hml, hown, hts⟩
  refine lv_iload_n hx hb dX4_restore_0 rfl (lv_at hl 1 rfl) ?_
  refine lv_iconst (v := 0) hx hb dX4_restore_1 (by decide) ?_
  refine lv_iconst (v := 1) hx hb dX4_restore_2 (by decide) ?_
  refine rcSi (As := [.int p0, .int 0, .int 1]) (rest := []) hSF (kX4_within l D cI cZ cC p0 0 1) (va_cwS 3 hts gX4_restore_X4_within rfl rfl rfl (by decide +kernel) ⟨Nat.le_of_ble_eq_true rfl, Nat.le_of_ble_eq_true rfl⟩) (hP.sub [] rfl) hK hN rfl rfl hl.1 (Nat.le_of_ble_eq_true rfl) dX4_restore_3 ⟨Nat.zero_le _, Nat.zero_le _⟩ ?_
  refine lv_if_ne (tgt := 12) hx hb dX4_restore_6 (by decide) (fun c => absurd h9 c) (fun c => ?_)
  refine lv_bipush (v := -2) hx hb dX4_restore_9 (by decide) ?_
  exact W.iret hx hb hr (fun t ht hW => ⟨_, rfl, rfl, ht⟩) (fun _ h9 => absurd h9 List.not_mem_nil) dX4_restore_11

set_option maxHeartbeats 4000000 in
set_option maxRecDepth 100000 in
theorem kX4_restore_none (l : Launch) (D : va_G) (cI cZ cC : ClassId) (hq hc hu hi hg hy hw : Nat) (f : Nat → Option Nat) (p0 : Int32) (h9 : ¬ fX4_within p0 0 1 = 0) (hf9 : f p0.toNatClampNeg = none) : Met l yX4_restore wsX4_restore ({ frames := 1, cells := 0, slots := 0, locals := 22 }) (pR D (tyv cI cZ cC) (wX4 hq hc hu hi hg hy hw ++ wXi cC hi f) [.ref hq, .int p0]) (vp_Si (fun r => r = -3)) 0 0 (fun _ => False) := by
  refine Met.ofW (cc := cX4_restore) (maxL := 3) (ret := (some .int)) (by decide) rfl ?_
  intro p e s m args below meth c s₁ B hml hv
  obtain ⟨rfl, hP, hK, hN⟩ := hv
  have hx := B.exec
  have hb := B.bytes
  have hr := B.returns
  have hts := atoms_spec (ws := wsX4_restore) B.pre
  have hown : s.vm.findClass RX4 = some m.cls := findClass_of_methodNamed B.named
  have hlocks := B.notSynchronized
  have hP : va_P D vwCl (wX4 hq hc hu hi hg hy hw ++ wXi cC hi f) s.heap := hP
  have hl := lv_entry ([.ref hq, .int p0]) (n := 3) (Nat.le_of_ble_eq_true rfl)
  rw [lg_entry_eq]
  generalize (lg_sl ([.ref hq, .int p0]) ++ List.replicate (3 - (lg_sl ([.ref hq, .int p0])).length) Slot.unset).toArray = ls at hl ⊢
  have hl : lv_has ls 3 [(0, .ref hq), (1, .int p0)] := hl
  have hSF : CallFix p m c cX4_restore 3 s _ wsX4_restore RX4 := ⟨hx, hb, hml, hown, hts⟩
  have hi4 : ∀ w ∈ wsX40, w ∈ wsX4_restore := by decide +kernel
  have hf19 : (Cond.fieldLink RX4 19 "UmbrellaVote" "images" "[LUmbrellaVote$City;").before _ s = true := hts _ (by decide +kernel)
  refine lv_iload_n hx hb dX4_restore_0 rfl (lv_at hl 1 rfl) ?_
  refine lv_iconst (v := 0) hx hb dX4_restore_1 (by decide) ?_
  refine lv_iconst (v := 1) hx hb dX4_restore_2 (by decide) ?_
  refine rcSi (As := [.int p0, .int 0, .int 1]) (rest := []) hSF (kX4_within l D cI cZ cC p0 0 1) (va_cwS 3 hts gX4_restore_X4_within rfl rfl rfl (by decide +kernel) ⟨Nat.le_of_ble_eq_true rfl, Nat.le_of_ble_eq_true rfl⟩) (hP.sub [] rfl) hK hN rfl rfl hl.1 (Nat.le_of_ble_eq_true rfl) dX4_restore_3 ⟨Nat.zero_le _, Nat.zero_le _⟩ ?_
  refine lv_if_ne (tgt := 12) hx hb dX4_restore_6 (by decide) (fun c => ?_) (fun c => absurd c h9)
  refine lv_aload_n hx hb dX4_restore_12 rfl (lv_at hl 0 rfl) ?_
  refine va_get (D := D) (ci := 4) (v := .ref hi) (C := RX4) (T := TX4) (N := 6) hx hb hts hi4 hown hK hP 0 rfl rfl 2 (by decide) hf19 (fun _ h9 => h9) rfl dX4_restore_13 ?_
  refine lv_iload_n hx hb dX4_restore_16 rfl (lv_at hl 1 rfl) ?_
  refine va_aldq (f := f) hx hb hK hP 1 2 rfl rfl (wi2 h9) dX4_restore_17 ?_
  rw [show va_rf (f p0.toNatClampNeg) = .null by rw [hf9]; rfl]
  refine lv_astore_nN (lv' := [(2, .null), (0, .ref hq), (1, .int p0)]) hx hb dX4_restore_18 rfl hl (by decide) rfl (fun ls hl => ?_)
  refine lv_aload_nN hx hb dX4_restore_19 rfl (lv_at hl 0 rfl) ?_
  refine lv_ifnonnullN hx hb dX4_restore_20 ?_
  refine lv_bipush (v := -3) hx hb dX4_restore_23 (by decide) ?_
  exact W.iret hx hb hr (fun t ht hW => ⟨_, rfl, rfl, ht⟩) (fun _ h9 => absurd h9 List.not_mem_nil) dX4_restore_25

set_option maxHeartbeats 4000000 in
set_option maxRecDepth 100000 in
theorem kX4_restore_some (l : Launch) (D : va_G) (cI cZ cC : ClassId) (hq hc hu hi hg hy hw : Nat) (ac : Nat → Nat) (oc : OV) (f : Nat → Option Nat) (hk : Nat) (ak : Nat → Nat) (ok : OV) (p0 : Int32) (h9 : ¬ fX4_within p0 0 1 = 0) (hf9 : f p0.toNatClampNeg = some hk) {sz : Nat} : Met l yX4_restore wsX4_restore ({ frames := 2, cells := 0, slots := 0, locals := 81 }) (pW D (tyv cI cZ cC) (wX4 hq hc hu hi hg hy hw ++ wX0 cI hc ac oc ++ wXi cC hi f ++ wX0 cI hk ak ok) sz [.ref hq, .int p0]) (va_Qi (fun r (u : OV) => r = 1 ∧ u = fX0_copyFrom oc ok) (qW D (fun (u : OV) => wX4 hq hc hu hi hg hy hw ++ wX0 cI hc ac u ++ wXi cC hi f ++ wX0 cI hk ak ok) (va_A (wX4 hq hc hu hi hg hy hw ++ wX0 cI hc ac oc ++ wXi cC hi f ++ wX0 cI hk ak ok) sz)) (va_A (wX4 hq hc hu hi hg hy hw ++ wX0 cI hc ac oc ++ wXi cC hi f ++ wX0 cI hk ak ok) sz)) 0 0 (va_A (wX4 hq hc hu hi hg hy hw ++ wX0 cI hc ac oc ++ wXi cC hi f ++ wX0 cI hk ak ok) sz) := by
  refine Met.ofW (cc := cX4_restore) (maxL := 3) (ret := (some .int)) (by decide) rfl ?_
  intro p e s m args below meth c s₁ B hml hv
  obtain ⟨rfl, hsz, hP, hK, hN, hD0⟩ := hv
  have hx := B.exec
  have hb := B.bytes
  have hr := B.returns
  have hts := atoms_spec (ws := wsX4_restore) B.pre
  have hown : s.vm.findClass RX4 = some m.cls := findClass_of_methodNamed B.named
  have hlocks := B.notSynchronized
  subst hsz
  have hD := hD0.self (sz := s.heap.size)
  generalize hAe : va_A (wX4 hq hc hu hi hg hy hw ++ wX0 cI hc ac oc ++ wXi cC hi f ++ wX0 cI hk ak ok) s.heap.size = A at hD ⊢
  have hA : ∀ q : Nat, s.heap.size ≤ q → A q := fun q h => by rw [← hAe]; exact Or.inr h
  have hS : va_S A s.heap s.heap [] := va_S.rf
  have hP : va_P D vwCl (wX4 hq hc hu hi hg hy hw ++ wX0 cI hc ac oc ++ wXi cC hi f ++ wX0 cI hk ak ok) s.heap := hP
  have hl := lv_entry ([.ref hq, .int p0]) (n := 3) (Nat.le_of_ble_eq_true rfl)
  rw [lg_entry_eq]
  generalize (lg_sl ([.ref hq, .int p0]) ++ List.replicate (3 - (lg_sl ([.ref hq, .int p0])).length) Slot.unset).toArray = ls at hl ⊢
  have hl : lv_has ls 3 [(0, .ref hq), (1, .int p0)] := hl
  have hSF : CallFix p m c cX4_restore 3 s _ wsX4_restore RX4 := ⟨hx, hb, hml, hown, hts⟩
  have hi4 : ∀ w ∈ wsX40, w ∈ wsX4_restore := by decide +kernel
  have hf19 : (Cond.fieldLink RX4 19 "UmbrellaVote" "images" "[LUmbrellaVote$City;").before _ s = true := hts _ (by decide +kernel)
  have hf10 : (Cond.fieldLink RX4 10 "UmbrellaVote" "city" "LUmbrellaVote$City;").before _ s = true := hts _ (by decide +kernel)
  refine lv_iload_n hx hb dX4_restore_0 rfl (lv_at hl 1 rfl) ?_
  refine lv_iconst (v := 0) hx hb dX4_restore_1 (by decide) ?_
  refine lv_iconst (v := 1) hx hb dX4_restore_2 (by decide) ?_
  refine rcSi (As := [.int p0, .int 0, .int 1]) (rest := []) hSF (kX4_within l D cI cZ cC p0 0 1) (va_cwS 3 hts gX4_restore_X4_within rfl rfl rfl (by decide +kernel) ⟨Nat.le_of_ble_eq_true rfl, Nat.le_of_ble_eq_true rfl⟩) (hP.sub [] rfl) hK hN rfl rfl hl.1 (Nat.le_of_ble_eq_true rfl) dX4_restore_3 ⟨Nat.zero_le _, Nat.zero_le _⟩ ?_
  refine lv_if_ne (tgt := 12) hx hb dX4_restore_6 (by decide) (fun c => ?_) (fun c => absurd c h9)
  refine lv_aload_n hx hb dX4_restore_12 rfl (lv_at hl 0 rfl) ?_
  refine va_get (D := D) (ci := 4) (v := .ref hi) (C := RX4) (T := TX4) (N := 6) hx hb hts hi4 hown hK hP 0 rfl rfl 2 (by decide) hf19 (fun _ h9 => h9) rfl dX4_restore_13 ?_
  refine lv_iload_n hx hb dX4_restore_16 rfl (lv_at hl 1 rfl) ?_
  refine va_aldq (f := f) hx hb hK hP 7 2 rfl rfl (wi2 h9) dX4_restore_17 ?_
  rw [show va_rf (f p0.toNatClampNeg) = .ref hk by rw [hf9]; rfl]
  refine lv_astore_n (lv' := [(2, .ref hk), (0, .ref hq), (1, .int p0)]) hx hb dX4_restore_18 rfl hl (by decide) rfl (fun ls hl => ?_)
  refine lv_aload_n hx hb dX4_restore_19 rfl (lv_at hl 0 rfl) ?_
  refine lv_ifnonnull (tgt := 26) hx hb dX4_restore_20 (by decide) ?_
  refine lv_aload_n hx hb dX4_restore_26 rfl (lv_at hl 1 rfl) ?_
  refine va_get (D := D) (ci := 4) (v := .ref hc) (C := RX4) (T := TX4) (N := 6) hx hb hts hi4 hown hK hP 0 rfl rfl 0 (by decide) hf10 (fun _ h9 => h9) rfl dX4_restore_27 ?_
  refine lv_aload_n hx hb dX4_restore_30 rfl (lv_at hl 0 rfl) ?_
  refine wcVv (b := hc) (As := [.ref hk]) (rest := []) (wr := [(hq, .inr (4, [.ref hc, .ref hu, .ref hi, .ref hg, .ref hy, .ref hw])), (hi, .inl (cC, 2, .inr (.inr (.inr (.inr f)))))]) (ws' := wX4 hq hc hu hi hg hy hw ++ wX0 cI hc ac (fX0_copyFrom oc ok) ++ wXi cC hi f ++ wX0 cI hk ak ok) hSF (kX0_copyFrom l D cI cZ cC hc ac oc hk ak ok) (cwV 1 hts gX4_restore_X0_copyFrom rfl rfl rfl (by decide +kernel) ⟨Nat.le_of_ble_eq_true rfl, Nat.le_of_ble_eq_true rfl⟩) (va_recv hK hP (ci := 0) (q0 := 1) rfl rfl) hP hD hS hA hK hN [1, 2, 3, 4, 5, 6, 8, 9, 10, 11, 12, 13] [0, 7] [0, 2, 3, 4, 5, 6, 7, 1, 8, 9, 10, 11, 12, 13] rfl (by decide) rfl (by decide) (by decide) rfl (by decide) rfl rfl hl.1 (Nat.le_of_ble_eq_true rfl) dX4_restore_31 ⟨Nat.zero_le _, Nat.zero_le _⟩ (fun H locs hP hD hS => ?_)
  refine lv_iconst (v := 1) hx hb dX4_restore_34 (by decide) ?_
  exact W.iret hx hb hr (fun t ht hW => ⟨⟨_, fX0_copyFrom oc ok, rfl, ⟨rfl, rfl⟩, ⟨by rw [ht]; exact hP, hD⟩⟩, hS.F ht⟩) hS.2.2 dX4_restore_35
