/-! THE LAW: from its entry (laid by wip/whole/gen/loop.py) -/
theorem law_cl4 : Cond.classLink RL 7 RX4 ∈ lw_tbl := List.mem_of_getElem? (i := 33) (by decide +kernel)
theorem law_ni4 : Cond.initialized RX4 ∈ lw_tbl := List.mem_of_getElem? (i := 23) (by decide +kernel)
theorem law_ml4 : Cond.methodLink RL 9 yX4_init ∈ lw_tbl := List.mem_of_getElem? (i := 35) (by decide +kernel)
theorem law_im4 : Cond.instanceMethod yX4_init ∈ lw_tbl := List.mem_of_getElem? (i := 36) (by decide +kernel)
theorem law_cl5 : Cond.classLink RL 10 RX5 ∈ lw_tbl := List.mem_of_getElem? (i := 518) (by decide +kernel)
theorem law_ni5 : Cond.initialized RX5 ∈ lw_tbl := List.mem_of_getElem? (i := 29) (by decide +kernel)
theorem law_ml5 : Cond.methodLink RL 12 yX5_init ∈ lw_tbl := List.mem_of_getElem? (i := 520) (by decide +kernel)
theorem law_im5 : Cond.instanceMethod yX5_init ∈ lw_tbl := List.mem_of_getElem? (i := 521) (by decide +kernel)
/-- what both hold when they are new -/
def K0 : KV := (fun k => if k = 0 then 2 else if k = 1 then 5 else 0, fun j _ => if j = 9 then 1 else 0)
theorem K0_ok : kok K0 := ⟨by decide, fun j _ => ⟨by decide +revert, by decide +revert, by decide +revert, by decide +revert, by decide +revert⟩, fun j _ => (show 1 ≤ 9 by decide), by decide⟩
theorem vI_0 : vI iX0 iX2 iX5 (fun _ => none) (fun _ => none) := by
  refine ⟨K0, fun _ => none, ⟨K0_ok, ⟨by decide +kernel, by decide +kernel, by decide +kernel⟩, ⟨by decide +kernel, by decide +kernel, by decide +kernel⟩⟩, ⟨0, by decide, rfl, by decide +kernel, by decide +kernel⟩, fun i hi => ⟨fun _ => ?_, fun K h => by cases h⟩, fun i hi => ⟨rfl, fun _ => rfl, fun y h => by cases h⟩⟩
  have : i = 0 ∨ i = 1 := by omega
  rcases this with rfl | rfl <;> decide +kernel
section LWI
variable {p : Program} {l : Launch} {e : Env} {R : Room} {s : State} {m : MethodId} {args : Array Value} {below : List Frame} {meth : Method} {c : Code} {H : Heap} {locs : List Loc} {cells slots : Nat} {Q : State → Prop}
variable {y : MethodName} {bytes cc : ByteArray} {maxL nL n index pc : Nat} {ws : List Cond} {rm : Room} {Ts : List Cond} {own host : String} {b : Addr} {As rest st0 : List Value} {ls : Array Slot} {D : va_G} {tys : List (ClassId × FieldType)} {wc : va_W}
/-- a constructor called beside other cells -/
theorem wcIB {σ : Type} {wo : σ → va_W} {post : σ → Prop} {A : Nat → Prop} {pl : va_W} {H0 : Heap} {mc ms : Nat} (S : CallFix p m c cc nL s args Ts own) (hM : Met l y ws rm (pW D tys wc H.size (.ref b :: As)) (va_Qv post (qW D wo (va_A wc H.size)) (va_A wc H.size)) mc ms (va_A wc H.size)) (cw : CallB R s args own index y bytes maxL none ws rm mc ms n ∧ y.name = "<init>" ∧ (Cond.instanceMethod y).before args s = true) (hP : va_P D vwCl (wc ++ pl) H) (hD : va_D A (wc ++ pl)) (hS : va_S A H0 H locs) (hA : ∀ q, H0.size ≤ q → A q) (hK : va_K D vwCl tys s) (hN : nwk s)
    (hst : st0 = As.reverse ++ .ref b :: rest) (hn : As.length = n) (hsz : ls.size = nL) (hW : (rest.map fun v => v.category).sum ≤ 8) (hdg : decode cc pc = .ok (.invokespecial index, 3)) (hf : cells + mc ≤ R.cells ∧ slots + ms ≤ R.slots)
    (kk : ∀ (u : σ) (H1 : Heap) (locs1 : List Loc), post u → va_P D vwCl (wo u ++ pl) H1 → va_D A (wo u ++ pl) → va_S A H0 H1 locs1 → W p l e R s m args below meth c H1 locs1 (cells + mc) (slots + ms) Q (F0 m (pc + 3) ls rest)) : W p l e R s m args below meth c H locs cells slots Q (F0 m pc ls st0) := by
  have hrg := va_rg wc
  have hPX : va_P D vwCl wc H := va_P_pm hP (fun _ hq => List.mem_append_left _ hq)
  have hDX := va_Dl hD
  have hFc := va_free (wc := wc) hDX hS hA _ hrg
  refine va_callv (va_runI (As := As) (rest := rest) (b := b) (g := F0 m pc ls st0) S hM cw ⟨pW_blind, pW_at hPX hDX hK hN⟩ rfl hn hsz hst (lv_room (m := m) (pc := pc) (ls := ls) (rest := st0) hW) hdg hf) hS (fun q _ h => hFc q h) hFc (fun u t H1 locs1 ht hvm hw hB hz1 hk1 hS1 => ?_)
  obtain ⟨hP1, hD1⟩ := hB
  rw [ht] at hP1
  obtain ⟨g1, g2⟩ := va_joinQ (wr := []) hP hD _ [] hrg rfl rfl (fun _ h => absurd h List.not_mem_nil) hk1 hFc hP1 hD1
  rw [List.nil_append] at g1 g2
  exact kk u H1 locs1 hw g1 g2 hS1
end LWI
set_option maxHeartbeats 4000000 in
set_option maxRecDepth 100000 in
theorem whole_start {p : Program} {e : Env} {s : State} {m : MethodId} {below : List Frame} {meth : Method} {c : Code} (l : Launch) (hflags : l.flags = flags0) {b L : Nat} {xs : Nat → Int32} (hL : L ≤ 3072) (C0 : lw_At p s m meth c b L xs) : W p l e room_1 s m #[Value.ref b] below meth c s.heap [] 0 0 (lw_Z below #[Value.ref b] s) (entryFrame m ([Value.ref b] : List Value).toArray 4) := by
  obtain ⟨hx, hb, hr, hml, hown, hts, hX, hbl, hlocks, hgv⟩ := id C0
  have hA : ∀ q : Nat, s.heap.size ≤ q → (fun q : Nat => s.heap.size ≤ q) q := fun _ h => h
  have hbA : ¬ (fun q : Nat => s.heap.size ≤ q) b := Nat.not_le.mpr hbl
  have hts2 : ∀ w ∈ wsL_law, w.before #[Value.ref b] s = true := fun w h => hts w (wsL_law_in w h)
  have hown : s.vm.findClass RL = some m.cls := hown
  have hSF : CallFix p m c code 4 s #[Value.ref b] wsL_law RL := ⟨hx, hb, hml, hown, hts2⟩
  obtain ⟨c0, i0, n0⟩ := u_known (C := RX0) (T := TX0) (N := 12) (n := 12) hts iwsX0 (hts _ law_in0)
  obtain ⟨c1, i1, n1⟩ := u_known (C := RX1) (T := TX1) (N := 4) (n := 4) hts iwsX1 (hts _ law_in1)
  obtain ⟨c2, i2, n2⟩ := u_known (C := RX2) (T := TX2) (N := 2) (n := 2) hts iwsX2 (hts _ law_in2)
  obtain ⟨c3, i3, n3⟩ := u_known (C := RX3) (T := TX3) (N := 5) (n := 5) hts iwsX3 (hts _ law_in3)
  obtain ⟨c4, i4, n4⟩ := u_known (C := RX4) (T := TX4) (N := 6) (n := 6) hts iwsX4 (hts _ law_in4)
  obtain ⟨c5, i5, n5⟩ := u_known (C := RX5) (T := TX5) (N := 24) (n := 24) hts iwsX5 (hts _ law_in5)
  obtain ⟨D, hKc⟩ : ∃ D : va_G, ∀ (k : Nat) (q : vw_C), vwCl[k]? = some q → u_Kn s q.1 q.2.1 q.2.2 (D.1 k) (D.2 k) := by
    refine ⟨(fun k => if k = 0 then c0 else if k = 1 then c1 else if k = 2 then c2 else if k = 3 then c3 else if k = 4 then c4 else c5, fun k => if k = 0 then i0 else if k = 1 then i1 else if k = 2 then i2 else if k = 3 then i3 else if k = 4 then i4 else i5), ?_⟩
    intro k q hq
    match k, hq with
    | 0, hq => cases hq; exact n0
    | 1, hq => cases hq; exact n1
    | 2, hq => cases hq; exact n2
    | 3, hq => cases hq; exact n3
    | 4, hq => cases hq; exact n4
    | 5, hq => cases hq; exact n5
    | k + 6, hq => simp at hq
  obtain ⟨cI, kI', pI, a1, a2, a3⟩ := Cond.arrayClass_spec (hts _ law_ai)
  obtain ⟨cZ, kZ', pZ, z1, z2, z3⟩ := Cond.arrayClass_spec (hts _ law_az)
  obtain ⟨pC, cC, kC', o1, -, o3, o4, o5⟩ := Cond.arrayOver_spec (hts _ law_ao)
  have hK : va_K D vwCl (tyv cI cZ cC) s := by
    refine ⟨hKc, fun k q hq => ?_⟩
    match k, hq with
    | 0, hq => cases hq; exact ⟨fun n z => ⟨fun k h => (by cases h), kI', a2, pI, a3⟩, a1⟩
    | 1, hq => cases hq; exact ⟨fun n z => ⟨fun k h => (by cases h), kZ', z2, pZ, z3⟩, z1⟩
    | 2, hq => cases hq; exact ⟨fun n z => ⟨fun k h => (by cases h), kC', o3, pC, o4⟩, kC', pC, o3, o4, o1, o5⟩
    | k + 3, hq => simp at hq
  have hN : nwk s := ⟨fun w hw => va_Nw.of (nwL_tabs w hw) (hts w (inwL w hw)), va_AO.of (hts _ law_ao)⟩
  have hS : va_S (fun q : Nat => s.heap.size ≤ q) s.heap s.heap [] := va_S.rf
  have hP : va_P D vwCl [] s.heap := fun k q h => by simp at h
  have hD : va_D (fun q : Nat => s.heap.size ≤ q) [] := ⟨fun i j p q h => by simp at h, fun k q h => by simp at h⟩
  have hl := lv_entry ([.ref b]) (n := 4) (Nat.le_of_ble_eq_true rfl)
  rw [lg_entry_eq]
  generalize (lg_sl ([.ref b]) ++ List.replicate (4 - (lg_sl ([.ref b])).length) Slot.unset).toArray = ls at hl ⊢
  have hl : lv_has ls 4 [(0, .ref b)] := hl
  refine va_new (ci := 4) (fs := [.null, .null, .null, .null, .null, .null]) (C := RX4) (T := TX4) (N := 6) hx hb hts iwsX4 tyX4 tyX4_ok hown (hts _ law_cl4) (hts _ law_in4) (hts _ law_ni4) hK hP hD hS hA rfl (fun j hj => by rcases (show j = 0 ∨ j = 1 ∨ j = 2 ∨ j = 3 ∨ j = 4 ∨ j = 5 by omega) with rfl | rfl | rfl | rfl | rfl | rfl <;> rfl) (Nat.le_of_ble_eq_true rfl) (Nat.le_of_ble_eq_true rfl) dL_law_0 (fun q0 H hP hD hS => ?_)
  have hP : va_P D vwCl [(q0, .inr (4, [.null, .null, .null, .null, .null, .null]))] H := hP
  have hD : va_D (fun q : Nat => s.heap.size ≤ q) [(q0, .inr (4, [.null, .null, .null, .null, .null, .null]))] := hD
  refine W.widen (k := 1) (n := 6) (by omega) (by omega) ?_
  refine lv_dup hx hb dL_law_3 rfl ?_
  refine wcIv (b := q0) (As := []) (rest := [.ref q0]) (wr := []) hSF (kX4_init l D cI cZ cC q0) (cwI 0 hts2 gL_law_X4_init rfl rfl rfl (hts _ law_ni4) (hts _ law_ml4) (hts _ law_im4) rfl (by decide +kernel) ⟨Nat.le_of_ble_eq_true rfl, Nat.le_of_ble_eq_true rfl⟩) hP hD hS hA hK hN [0] [] rfl (by decide) rfl (by decide) (by decide) rfl rfl hl.1 (Nat.le_of_ble_eq_true rfl) dL_law_4 ⟨Nat.le_of_ble_eq_true rfl, Nat.le_of_ble_eq_true rfl⟩ (fun u H locs _ hP hD hS => ?_)
  obtain ⟨⟨hc, hu, hi, hg, hy, hw⟩, ac, au, ag, ay, aw⟩ := u
  have hP : va_P D vwCl (wX4 q0 hc hu hi hg hy hw ++ wX0 cI hc ac iX0 ++ wX0 cI hu au iX0 ++ wXi cC hi (fun _ => none) ++ wX2 cI hg ag iX2 ++ wX1 cI (ay 20) hy ay iX1 ++ wX0 cI (ay 20) (fun k => ay (k + 30)) iX0 ++ wX3 cI hw aw iX3) H := hP
  have hD : va_D (fun q : Nat => s.heap.size ≤ q) (wX4 q0 hc hu hi hg hy hw ++ wX0 cI hc ac iX0 ++ wX0 cI hu au iX0 ++ wXi cC hi (fun _ => none) ++ wX2 cI hg ag iX2 ++ wX1 cI (ay 20) hy ay iX1 ++ wX0 cI (ay 20) (fun k => ay (k + 30)) iX0 ++ wX3 cI hw aw iX3) := hD
  refine W.widen (k := 29) (n := 3816) (by omega) (by omega) ?_
  refine lv_astore_n (lv' := [(1, .ref q0), (0, .ref b)]) hx hb dL_law_7 rfl hl (by decide) rfl (fun ls hl => ?_)
  refine va_new (ci := 5) (fs := [.int 0, .null, .null, .null, .int 0, .int 0, .int 0, .int 0, .null, .null, .null, .int 0, .null, .int 0, .null, .int 0, .int 0, .int 0, .int 0, .null, .null, .null, .int 0, .int 0]) (C := RX5) (T := TX5) (N := 24) hx hb hts iwsX5 tyX5 tyX5_ok hown (hts _ law_cl5) (hts _ law_in5) (hts _ law_ni5) hK hP hD hS hA rfl (fun j hj => by rcases (show j = 0 ∨ j = 1 ∨ j = 2 ∨ j = 3 ∨ j = 4 ∨ j = 5 ∨ j = 6 ∨ j = 7 ∨ j = 8 ∨ j = 9 ∨ j = 10 ∨ j = 11 ∨ j = 12 ∨ j = 13 ∨ j = 14 ∨ j = 15 ∨ j = 16 ∨ j = 17 ∨ j = 18 ∨ j = 19 ∨ j = 20 ∨ j = 21 ∨ j = 22 ∨ j = 23 by omega) with rfl | rfl | rfl | rfl | rfl | rfl | rfl | rfl | rfl | rfl | rfl | rfl | rfl | rfl | rfl | rfl | rfl | rfl | rfl | rfl | rfl | rfl | rfl | rfl <;> rfl) (Nat.le_of_ble_eq_true rfl) (Nat.le_of_ble_eq_true rfl) dL_law_8 (fun q1 H hP hD hS => ?_)
  have hP : va_P D vwCl (List.flatten [[(q1, .inr (5, [.int 0, .null, .null, .null, .int 0, .int 0, .int 0, .int 0, .null, .null, .null, .int 0, .null, .int 0, .null, .int 0, .int 0, .int 0, .int 0, .null, .null, .null, .int 0, .int 0]))], wX4 q0 hc hu hi hg hy hw ++ wX0 cI hc ac iX0 ++ wX0 cI hu au iX0 ++ wXi cC hi (fun _ => none) ++ wX2 cI hg ag iX2 ++ wX1 cI (ay 20) hy ay iX1 ++ wX0 cI (ay 20) (fun k => ay (k + 30)) iX0 ++ wX3 cI hw aw iX3]) H := va_P_pm hP (fun q hq => by
    rcases List.mem_append.mp hq with z | z
    · exact List.mem_append_right _ z
    · rw [List.flatten_cons, List.flatten_nil, List.append_nil] at z
      exact List.mem_append_left _ z)
  have hD : va_D (fun q : Nat => s.heap.size ≤ q) (List.flatten [[(q1, .inr (5, [.int 0, .null, .null, .null, .int 0, .int 0, .int 0, .int 0, .null, .null, .null, .int 0, .null, .int 0, .null, .int 0, .int 0, .int 0, .int 0, .null, .null, .null, .int 0, .int 0]))], wX4 q0 hc hu hi hg hy hw ++ wX0 cI hc ac iX0 ++ wX0 cI hu au iX0 ++ wXi cC hi (fun _ => none) ++ wX2 cI hg ag iX2 ++ wX1 cI (ay 20) hy ay iX1 ++ wX0 cI (ay 20) (fun k => ay (k + 30)) iX0 ++ wX3 cI hw aw iX3]) := va_D_pm hD (by
    rw [List.flatten_cons, List.flatten_cons, List.flatten_nil, List.append_nil]
    exact List.perm_append_comm)
  refine W.widen (k := 30) (n := 3840) (by omega) (by omega) ?_
  refine lv_dup hx hb dL_law_11 rfl ?_
  refine wcIB (b := q1) (As := []) (rest := [.ref q1]) (pl := wX4 q0 hc hu hi hg hy hw ++ wX0 cI hc ac iX0 ++ wX0 cI hu au iX0 ++ wXi cC hi (fun _ => none) ++ wX2 cI hg ag iX2 ++ wX1 cI (ay 20) hy ay iX1 ++ wX0 cI (ay 20) (fun k => ay (k + 30)) iX0 ++ wX3 cI hw aw iX3) hSF (kX5_init l D cI cZ cC q1) (cwI 0 hts2 gL_law_X5_init rfl rfl rfl (hts _ law_ni5) (hts _ law_ml5) (hts _ law_im5) rfl (by decide +kernel) ⟨Nat.le_of_ble_eq_true rfl, Nat.le_of_ble_eq_true rfl⟩) (va_P_p hP (by rw [List.flatten_cons, List.flatten_cons, List.flatten_nil, List.append_nil])) (va_D_pm hD (by rw [List.flatten_cons, List.flatten_cons, List.flatten_nil, List.append_nil])) hS hA hK hN rfl rfl hl.1 (Nat.le_of_ble_eq_true rfl) dL_law_12 ⟨Nat.le_of_ble_eq_true rfl, Nat.le_of_ble_eq_true rfl⟩ (fun u H locs hu2 hP hD hS => ?_)
  obtain ⟨am, o2⟩ := u
  obtain rfl : o2 = iX5 := hu2
  refine W.widen (k := 100) (n := 5000) (by omega) (by omega) ?_
  refine lv_astore_n (lv' := [(2, .ref q1), (1, .ref q0), (0, .ref b)]) hx hb dL_law_15 rfl hl (by decide) rfl (fun ls hl => ?_)
  refine lv_iconst (v := 0) hx hb dL_law_16 (by decide) ?_
  refine lv_istore_n (lv' := [(3, .int 0), (2, .ref q1), (1, .ref q0), (0, .ref b)]) hx hb dL_law_17 rfl hl (by decide) rfl (fun ls hl => ?_)
  have pm : List.Perm (wX5 cI cZ q1 am iX5 ++ (wX4 q0 hc hu hi hg hy hw ++ wX0 cI hc ac iX0 ++ wX0 cI hu au iX0 ++ wXi cC hi (fun _ => none) ++ wX2 cI hg ag iX2 ++ wX1 cI (ay 20) hy ay iX1 ++ wX0 cI (ay 20) (fun k => ay (k + 30)) iX0 ++ wX3 cI hw aw iX3)) (List.flatten (wB cI cZ cC q0 hc hu hi hg hy hw q1 (ay 20) ac au ag ay aw am (fun k => ay (k + 30)) (fun _ => none) iX0 iX0 iX2 iX1 iX3 iX5 iX0 (fun _ => none))) := by
    refine List.perm_append_comm.trans (List.Perm.of_eq ?_)
    simp only [List.flatten_cons, List.flatten_nil, List.append_assoc, List.append_nil, pk]
  exact law_loop C0 hts2 hL hK hN (L + 1) 0 (Nat.zero_le L) (by omega) 100 5000 (by omega) (by omega) _ _ _ _ _ _ _ _ _ H locs ls vI_0 (va_P_p hP pm) (va_D_pm hD pm) hS (lv_sub hl [3, 2, 1, 0] rfl)
