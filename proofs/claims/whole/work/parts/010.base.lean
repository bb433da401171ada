/-! BASE: states of objects, worlds, starts and ends of contracts, calls, joins, loops -/
abbrev OV : Type := (Nat → Int32) × (Nat → Nat → Int32)
def us (o : OV) (k : Nat) (v : Int32) : OV := (upd o.1 k v, o.2)
def ub (o : OV) (k : Nat) (f : Nat → Int32) : OV := (o.1, fun j => if j = k then f else o.2 j)
def ua (o : OV) (k : Nat) (i : Nat) (v : Int32) : OV := (o.1, fun j => if j = k then upd (o.2 k) i v else o.2 j)
theorem us_s (o : OV) (k : Nat) (v : Int32) : (us o k v).1 k = v := if_pos rfl
theorem us_n {o : OV} {k j : Nat} {v : Int32} (h : j ≠ k) : (us o k v).1 j = o.1 j := if_neg h
theorem us_2 (o : OV) (k : Nat) (v : Int32) : (us o k v).2 = o.2 := rfl
theorem ua_1 (o : OV) (k i : Nat) (v : Int32) : (ua o k i v).1 = o.1 := rfl
theorem ua_s (o : OV) (k i : Nat) (v : Int32) : (ua o k i v).2 k = upd (o.2 k) i v := if_pos rfl
theorem ua_n {o : OV} {k j i : Nat} {v : Int32} (h : j ≠ k) : (ua o k i v).2 j = o.2 j := if_neg h
theorem ub_1 (o : OV) (k : Nat) (f : Nat → Int32) : (ub o k f).1 = o.1 := rfl
theorem ub_s (o : OV) (k : Nat) (f : Nat → Int32) : (ub o k f).2 k = f := if_pos rfl
theorem ub_n {o : OV} {k j : Nat} {f : Nat → Int32} (h : j ≠ k) : (ub o k f).2 j = o.2 j := if_neg h
/-- the links to private members of nest mates -/
def nwL : List Cond := [.methodLinkNest "UmbrellaVote" 25 ⟨"UmbrellaVote$Pad", "<init>", "()V"⟩ "UmbrellaVote", .methodLinkNest "UmbrellaVote" 32 ⟨"UmbrellaVote$History", "<init>", "()V"⟩ "UmbrellaVote", .methodLinkNest "UmbrellaVote" 39 ⟨"UmbrellaVote$Resting", "<init>", "()V"⟩ "UmbrellaVote", .methodLinkNest "UmbrellaVote$City" 61 ⟨"UmbrellaVote", "within", "(III)Z"⟩ "UmbrellaVote", .methodLinkNest "UmbrellaVote$City" 65 ⟨"UmbrellaVote", "hasBit", "(II)Z"⟩ "UmbrellaVote", .methodLinkNest "UmbrellaVote$City" 90 ⟨"UmbrellaVote", "withBit", "(IIZ)I"⟩ "UmbrellaVote", .methodLinkNest "UmbrellaVote$History" 89 ⟨"UmbrellaVote", "withBit", "(IIZ)I"⟩ "UmbrellaVote", .methodLinkNest "UmbrellaVote$History" 93 ⟨"UmbrellaVote", "hasBit", "(II)Z"⟩ "UmbrellaVote", .methodLinkNest "UmbrellaVote$History" 100 ⟨"UmbrellaVote", "within", "(III)Z"⟩ "UmbrellaVote", .methodLinkNest "UmbrellaVote$Pad" 19 ⟨"UmbrellaVote", "within", "(III)Z"⟩ "UmbrellaVote", .methodLinkNest "UmbrellaVote$Resting" 58 ⟨"UmbrellaVote", "hasBit", "(II)Z"⟩ "UmbrellaVote"]
def nwk (U : State) : Prop := (∀ w ∈ nwL, va_Nw w U) ∧ va_AO RX0 U
theorem nwL_tabs : ∀ w ∈ nwL, w.onTables = true := by decide +kernel
theorem nwk_same {u U : State} (h : u.vm = U.vm) (hN : nwk u) : nwk U := ⟨fun w hw => va_Nw.same (nwL_tabs w hw) h (hN.1 w hw), hN.2.moved (by rw [h]; exact Vm.Alike.refl _)⟩
theorem nwk_warm {s U : State} (hW : s.WarmedH U.vm) (hN : nwk s) : nwk U := by
  refine ⟨?_, hN.2.moved hW.alike⟩
  intro w hw
  have h := hN.1 w hw
  simp only [nwL, List.mem_cons, List.not_mem_nil, or_false] at hw
  rcases hw with rfl | rfl | rfl | rfl | rfl | rfl | rfl | rfl | rfl | rfl | rfl <;> exact va_Nw.warmM hW h
/-- starts: a method that only reads, and one that writes -/
def pR (D : va_G) (tys : List (ClassId × FieldType)) (ws : va_W) (av : List Value) : Array Value → State → Prop := va_Pc av (fun U => va_P D vwCl ws U.heap ∧ va_K D vwCl tys U ∧ nwk U)
theorem pR_blind {D : va_G} {tys : List (ClassId × FieldType)} {ws : va_W} {av : List Value} : FrameBlind (pR D tys ws av) := fun a U g mk q => ⟨q.1, q.2.1, va_K.moved (u := U) (U := U.calling g mk a) (Vm.Alike.refl U.vm) q.2.2.1, nwk_same (u := U) (U := U.calling g mk a) rfl q.2.2.2⟩
theorem pR_at {D : va_G} {tys : List (ClassId × FieldType)} {ws : va_W} {av : List Value} {s : State} {H : Heap} (hP : va_P D vwCl ws H) (hK : va_K D vwCl tys s) (hN : nwk s) : ∀ U : State, U.heap = H → s.WarmedH U.vm → pR D tys ws av av.toArray U := fun U hU hW => ⟨rfl, by rw [hU]; exact hP, va_K.moved hW.alike hK, nwk_warm hW hN⟩
def pW (D : va_G) (tys : List (ClassId × FieldType)) (ws : va_W) (sz : Nat) (av : List Value) : Array Value → State → Prop := va_Pc av (fun U => U.heap.size = sz ∧ va_P D vwCl ws U.heap ∧ va_K D vwCl tys U ∧ nwk U ∧ va_D (fun _ => True) ws)
theorem pW_blind {D : va_G} {tys : List (ClassId × FieldType)} {ws : va_W} {sz : Nat} {av : List Value} : FrameBlind (pW D tys ws sz av) := fun a U g mk q => ⟨q.1, q.2.1, q.2.2.1, va_K.moved (u := U) (U := U.calling g mk a) (Vm.Alike.refl U.vm) q.2.2.2.1, nwk_same (u := U) (U := U.calling g mk a) rfl q.2.2.2.2.1, q.2.2.2.2.2⟩
theorem pW_at {D : va_G} {tys : List (ClassId × FieldType)} {ws : va_W} {av : List Value} {s : State} {H : Heap} {A : Nat → Prop} (hP : va_P D vwCl ws H) (hD : va_D A ws) (hK : va_K D vwCl tys s) (hN : nwk s) : ∀ U : State, U.heap = H → s.WarmedH U.vm → pW D tys ws H.size av av.toArray U := fun U hU hW => ⟨rfl, by rw [hU], by rw [hU]; exact hP, va_K.moved hW.alike hK, nwk_warm hW hN, hD.weaken (fun _ _ _ _ => trivial)⟩
/-- the end of a method that writes: its world is wo of what it made -/
def qW {S : Type} (D : va_G) (wo : S → va_W) (A : Nat → Prop) : S → State → Prop := fun u t => va_P D vwCl (wo u) t.heap ∧ va_D A (wo u)
theorem fm_of_map {α β : Type} {f : α → Option β} : ∀ {l : List α} {r : List β}, l.map f = r.map some → l.filterMap f = r
  | [], [], _ => rfl
  | [], _ :: _, h => by simp at h
  | _ :: _, [], h => by simp at h
  | a :: l, b :: r, h => by
    simp only [List.map_cons, List.cons.injEq] at h
    rw [List.filterMap_cons, h.1, fm_of_map h.2]
section UV
variable {p : Program} {l : Launch} {e : Env} {R : Room} {s : State} {m : MethodId} {args : Array Value} {below : List Frame} {meth : Method} {c : Code} {H : Heap} {locs : List Loc} {cells slots : Nat} {Q : State → Prop}
variable {y : MethodName} {bytes cc : ByteArray} {maxL nL n index pc : Nat} {ret : Option FieldType} {ws : List Cond} {rm : Room} {Ts : List Cond} {own host C : String} {b : Addr} {As rest st0 : List Value} {ls : Array Slot} {D : va_G} {tys : List (ClassId × FieldType)} {wc : va_W}
theorem rcVi {v : Int32} (S : CallFix p m c cc nL s args Ts own) (hM : Met l y ws rm (pR D tys wc (.ref b :: As)) (vp_Si (fun r => r = v)) 0 0 (fun _ => False)) (cw : CallW R s args own C index y bytes maxL ret ws rm 0 0 n) (hr : ∃ cellB : Cell, H[b]? = some cellB ∧ cellB.vm.isStatics = false ∧ s.vm.findClass C = some cellB.cls) (hP : va_P D vwCl wc H) (hK : va_K D vwCl tys s) (hN : nwk s) (hst : st0 = As.reverse ++ .ref b :: rest) (hn : As.length = n) (hsz : ls.size = nL) (hW : (rest.map fun v => v.category).sum ≤ 8) (hdg : decode cc pc = .ok (.invokevirtual index, 3)) (hf : cells ≤ R.cells ∧ slots ≤ R.slots)
    (kk : W p l e R s m args below meth c H locs cells slots Q (F0 m (pc + 3) ls (.int v :: rest))) : W p l e R s m args below meth c H locs cells slots Q (F0 m pc ls st0) :=
  vp_callSi (va_runV (As := As) (rest := rest) (b := b) (g := F0 m pc ls st0) S hM cw ⟨pR_blind, hr, pR_at hP hK hN⟩ rfl hn hsz hst (lv_room (m := m) (pc := pc) (ls := ls) (rest := st0) hW) hdg hf).run (fun _ h => h ▸ kk)
theorem rcVl {v : Int64} (S : CallFix p m c cc nL s args Ts own) (hM : Met l y ws rm (pR D tys wc (.ref b :: As)) (vp_Sl (fun r => r = v)) 0 0 (fun _ => False)) (cw : CallW R s args own C index y bytes maxL ret ws rm 0 0 n) (hr : ∃ cellB : Cell, H[b]? = some cellB ∧ cellB.vm.isStatics = false ∧ s.vm.findClass C = some cellB.cls) (hP : va_P D vwCl wc H) (hK : va_K D vwCl tys s) (hN : nwk s) (hst : st0 = As.reverse ++ .ref b :: rest) (hn : As.length = n) (hsz : ls.size = nL) (hW : (rest.map fun v => v.category).sum ≤ 8) (hdg : decode cc pc = .ok (.invokevirtual index, 3)) (hf : cells ≤ R.cells ∧ slots ≤ R.slots)
    (kk : W p l e R s m args below meth c H locs cells slots Q (F0 m (pc + 3) ls (.long v :: rest))) : W p l e R s m args below meth c H locs cells slots Q (F0 m pc ls st0) :=
  vp_callSl (va_runV (As := As) (rest := rest) (b := b) (g := F0 m pc ls st0) S hM cw ⟨pR_blind, hr, pR_at hP hK hN⟩ rfl hn hsz hst (lv_room (m := m) (pc := pc) (ls := ls) (rest := st0) hW) hdg hf).run (fun _ h => h ▸ kk)
theorem rcSi {v : Int32} (S : CallFix p m c cc nL s args Ts own) (hM : Met l y ws rm (pR D tys wc As) (vp_Si (fun r => r = v)) 0 0 (fun _ => False)) (cw : CallB R s args own index y bytes maxL ret ws rm 0 0 n ∧ (Cond.static y).before args s = true) (hP : va_P D vwCl wc H) (hK : va_K D vwCl tys s) (hN : nwk s) (hst : st0 = As.reverse ++ rest) (hn : As.length = n) (hsz : ls.size = nL) (hW : (rest.map fun v => v.category).sum ≤ 8) (hdg : decode cc pc = .ok (.invokestatic index, 3)) (hf : cells ≤ R.cells ∧ slots ≤ R.slots)
    (kk : W p l e R s m args below meth c H locs cells slots Q (F0 m (pc + 3) ls (.int v :: rest))) : W p l e R s m args below meth c H locs cells slots Q (F0 m pc ls st0) :=
  vp_callSi (va_runS (As := As) (rest := rest) (g := F0 m pc ls st0) S hM cw ⟨pR_blind, pR_at hP hK hN⟩ rfl hn hsz hst (lv_room (m := m) (pc := pc) (ls := ls) (rest := st0) hW) hdg hf).run (fun _ h => h ▸ kk)
theorem rcSl {v : Int64} (S : CallFix p m c cc nL s args Ts own) (hM : Met l y ws rm (pR D tys wc As) (vp_Sl (fun r => r = v)) 0 0 (fun _ => False)) (cw : CallB R s args own index y bytes maxL ret ws rm 0 0 n ∧ (Cond.static y).before args s = true) (hP : va_P D vwCl wc H) (hK : va_K D vwCl tys s) (hN : nwk s) (hst : st0 = As.reverse ++ rest) (hn : As.length = n) (hsz : ls.size = nL) (hW : (rest.map fun v => v.category).sum ≤ 8) (hdg : decode cc pc = .ok (.invokestatic index, 3)) (hf : cells ≤ R.cells ∧ slots ≤ R.slots)
    (kk : W p l e R s m args below meth c H locs cells slots Q (F0 m (pc + 3) ls (.long v :: rest))) : W p l e R s m args below meth c H locs cells slots Q (F0 m pc ls st0) :=
  vp_callSl (va_runS (As := As) (rest := rest) (g := F0 m pc ls st0) S hM cw ⟨pR_blind, pR_at hP hK hN⟩ rfl hn hsz hst (lv_room (m := m) (pc := pc) (ls := ls) (rest := st0) hW) hdg hf).run (fun _ h => h ▸ kk)
theorem rcNi {v : Int32} (S : CallFix p m c cc nL s args Ts own) (hM : Met l y ws rm (pR D tys wc As) (vp_Si (fun r => r = v)) 0 0 (fun _ => False)) (cw : va_CN R s args own index y host bytes maxL ret ws rm 0 0 n) (hs : (Cond.static y).before args s = true) (hP : va_P D vwCl wc H) (hK : va_K D vwCl tys s) (hN : nwk s) (hst : st0 = As.reverse ++ rest) (hn : As.length = n) (hsz : ls.size = nL) (hW : (rest.map fun v => v.category).sum ≤ 8) (hdg : decode cc pc = .ok (.invokestatic index, 3)) (hf : cells ≤ R.cells ∧ slots ≤ R.slots)
    (kk : W p l e R s m args below meth c H locs cells slots Q (F0 m (pc + 3) ls (.int v :: rest))) : W p l e R s m args below meth c H locs cells slots Q (F0 m pc ls st0) :=
  vp_callSi (va_runSN (As := As) (rest := rest) (g := F0 m pc ls st0) S hM ⟨cw, hs, trivial⟩ ⟨pR_blind, pR_at hP hK hN⟩ rfl hn hsz hst (lv_room (m := m) (pc := pc) (ls := ls) (rest := st0) hW) hdg hf).run (fun _ h => h ▸ kk)
/-- calls of methods that write: what came back beside the rest, in the order that is given -/
theorem wc_back {A : Nat → Prop} {ws9 wr w1 ws' : va_W} {H1 : Heap} {H0 : Heap} (hP : va_P D vwCl ws9 H) (hD : va_D A ws9) (isC isR isP : List Nat) (hC : isC.map (fun i => ws9[i]?) = wc.map some) (hR : isR.map (fun i => ws9[i]?) = wr.map some) (hnR : va_nd isR = true) (hdis : ∀ i ∈ isR, i ∉ isC) (hk : ∀ q : Nat, q < H.size → ¬ va_A wc H.size q → H1[q]? = H[q]?) (hF : ∀ q, va_A wc H.size q → A q) (hP1 : va_P D vwCl w1 H1) (hD1 : va_D (va_A wc H.size) w1) (hp : isP.map (fun i => (wr ++ w1)[i]?) = ws'.map some) (hnP : va_nd isP = true) : va_P D vwCl ws' H1 ∧ va_D A ws' := by
  obtain ⟨h1, h2⟩ := va_join (wr := wr) (w1 := w1) hP hD isC isR hC hR hnR hdis hk hF hP1 hD1
  exact ⟨h1.sub isP (fm_of_map hp), h2.sub isP hnP hp⟩
theorem wcVi {σ : Type} {wo : σ → va_W} {v : Int32} {x : σ} {A : Nat → Prop} {ws9 wr ws' : va_W} {H0 : Heap} {mc ms : Nat} (S : CallFix p m c cc nL s args Ts own) (hM : Met l y ws rm (pW D tys wc H.size (.ref b :: As)) (va_Qi (fun r u => r = v ∧ u = x) (qW D wo (va_A wc H.size)) (va_A wc H.size)) mc ms (va_A wc H.size)) (cw : CallW R s args own C index y bytes maxL ret ws rm mc ms n) (hr : ∃ cellB : Cell, H[b]? = some cellB ∧ cellB.vm.isStatics = false ∧ s.vm.findClass C = some cellB.cls) (hP : va_P D vwCl ws9 H) (hD : va_D A ws9) (hS : va_S A H0 H locs) (hA : ∀ q, H0.size ≤ q → A q) (hK : va_K D vwCl tys s) (hN : nwk s)
    (isC isR isP : List Nat) (hC : isC.map (fun i => ws9[i]?) = wc.map some) (hnC : va_nd isC = true) (hR : isR.map (fun i => ws9[i]?) = wr.map some) (hnR : va_nd isR = true) (hdis : ∀ i ∈ isR, i ∉ isC) (hp : isP.map (fun i => (wr ++ wo x)[i]?) = ws'.map some) (hnP : va_nd isP = true)
    (hst : st0 = As.reverse ++ .ref b :: rest) (hn : As.length = n) (hsz : ls.size = nL) (hW : (rest.map fun v => v.category).sum ≤ 8) (hdg : decode cc pc = .ok (.invokevirtual index, 3)) (hf : cells + mc ≤ R.cells ∧ slots + ms ≤ R.slots)
    (kk : ∀ (H1 : Heap) (locs1 : List Loc), va_P D vwCl ws' H1 → va_D A ws' → va_S A H0 H1 locs1 → W p l e R s m args below meth c H1 locs1 (cells + mc) (slots + ms) Q (F0 m (pc + 3) ls (.int v :: rest))) : W p l e R s m args below meth c H locs cells slots Q (F0 m pc ls st0) := by
  have hFc := va_free (wc := wc) hD hS hA isC hC
  refine va_calli (va_runV (As := As) (rest := rest) (b := b) (g := F0 m pc ls st0) S hM cw ⟨pW_blind, hr, pW_at (hP.sub isC (fm_of_map hC)) (hD.sub isC hnC hC) hK hN⟩ rfl hn hsz hst (lv_room (m := m) (pc := pc) (ls := ls) (rest := st0) hW) hdg hf) hS (fun q _ h => hFc q h) hFc (fun r u t H1 locs1 ht hvm hw hB hz1 hk1 hS1 => ?_)
  obtain ⟨rfl, rfl⟩ := hw
  obtain ⟨hP1, hD1⟩ := hB
  rw [ht] at hP1
  obtain ⟨h1, h2⟩ := wc_back hP hD isC isR isP hC hR hnR hdis hk1 hFc hP1 hD1 hp hnP (H0 := H0)
  exact kk H1 locs1 h1 h2 hS1
theorem wcVl {σ : Type} {wo : σ → va_W} {v : Int64} {x : σ} {A : Nat → Prop} {ws9 wr ws' : va_W} {H0 : Heap} {mc ms : Nat} (S : CallFix p m c cc nL s args Ts own) (hM : Met l y ws rm (pW D tys wc H.size (.ref b :: As)) (va_Ql (fun r u => r = v ∧ u = x) (qW D wo (va_A wc H.size)) (va_A wc H.size)) mc ms (va_A wc H.size)) (cw : CallW R s args own C index y bytes maxL ret ws rm mc ms n) (hr : ∃ cellB : Cell, H[b]? = some cellB ∧ cellB.vm.isStatics = false ∧ s.vm.findClass C = some cellB.cls) (hP : va_P D vwCl ws9 H) (hD : va_D A ws9) (hS : va_S A H0 H locs) (hA : ∀ q, H0.size ≤ q → A q) (hK : va_K D vwCl tys s) (hN : nwk s)
    (isC isR isP : List Nat) (hC : isC.map (fun i => ws9[i]?) = wc.map some) (hnC : va_nd isC = true) (hR : isR.map (fun i => ws9[i]?) = wr.map some) (hnR : va_nd isR = true) (hdis : ∀ i ∈ isR, i ∉ isC) (hp : isP.map (fun i => (wr ++ wo x)[i]?) = ws'.map some) (hnP : va_nd isP = true)
    (hst : st0 = As.reverse ++ .ref b :: rest) (hn : As.length = n) (hsz : ls.size = nL) (hW : (rest.map fun v => v.category).sum ≤ 8) (hdg : decode cc pc = .ok (.invokevirtual index, 3)) (hf : cells + mc ≤ R.cells ∧ slots + ms ≤ R.slots)
    (kk : ∀ (H1 : Heap) (locs1 : List Loc), va_P D vwCl ws' H1 → va_D A ws' → va_S A H0 H1 locs1 → W p l e R s m args below meth c H1 locs1 (cells + mc) (slots + ms) Q (F0 m (pc + 3) ls (.long v :: rest))) : W p l e R s m args below meth c H locs cells slots Q (F0 m pc ls st0) := by
  have hFc := va_free (wc := wc) hD hS hA isC hC
  refine va_calll (va_runV (As := As) (rest := rest) (b := b) (g := F0 m pc ls st0) S hM cw ⟨pW_blind, hr, pW_at (hP.sub isC (fm_of_map hC)) (hD.sub isC hnC hC) hK hN⟩ rfl hn hsz hst (lv_room (m := m) (pc := pc) (ls := ls) (rest := st0) hW) hdg hf) hS (fun q _ h => hFc q h) hFc (fun r u t H1 locs1 ht hvm hw hB hz1 hk1 hS1 => ?_)
  obtain ⟨rfl, rfl⟩ := hw
  obtain ⟨hP1, hD1⟩ := hB
  rw [ht] at hP1
  obtain ⟨h1, h2⟩ := wc_back hP hD isC isR isP hC hR hnR hdis hk1 hFc hP1 hD1 hp hnP (H0 := H0)
  exact kk H1 locs1 h1 h2 hS1
theorem wcVv {σ : Type} {wo : σ → va_W} {x : σ} {A : Nat → Prop} {ws9 wr ws' : va_W} {H0 : Heap} {mc ms : Nat} (S : CallFix p m c cc nL s args Ts own) (hM : Met l y ws rm (pW D tys wc H.size (.ref b :: As)) (va_Qv (fun u => u = x) (qW D wo (va_A wc H.size)) (va_A wc H.size)) mc ms (va_A wc H.size)) (cw : CallW R s args own C index y bytes maxL ret ws rm mc ms n) (hr : ∃ cellB : Cell, H[b]? = some cellB ∧ cellB.vm.isStatics = false ∧ s.vm.findClass C = some cellB.cls) (hP : va_P D vwCl ws9 H) (hD : va_D A ws9) (hS : va_S A H0 H locs) (hA : ∀ q, H0.size ≤ q → A q) (hK : va_K D vwCl tys s) (hN : nwk s)
    (isC isR isP : List Nat) (hC : isC.map (fun i => ws9[i]?) = wc.map some) (hnC : va_nd isC = true) (hR : isR.map (fun i => ws9[i]?) = wr.map some) (hnR : va_nd isR = true) (hdis : ∀ i ∈ isR, i ∉ isC) (hp : isP.map (fun i => (wr ++ wo x)[i]?) = ws'.map some) (hnP : va_nd isP = true)
    (hst : st0 = As.reverse ++ .ref b :: rest) (hn : As.length = n) (hsz : ls.size = nL) (hW : (rest.map fun v => v.category).sum ≤ 8) (hdg : decode cc pc = .ok (.invokevirtual index, 3)) (hf : cells + mc ≤ R.cells ∧ slots + ms ≤ R.slots)
    (kk : ∀ (H1 : Heap) (locs1 : List Loc), va_P D vwCl ws' H1 → va_D A ws' → va_S A H0 H1 locs1 → W p l e R s m args below meth c H1 locs1 (cells + mc) (slots + ms) Q (F0 m (pc + 3) ls rest)) : W p l e R s m args below meth c H locs cells slots Q (F0 m pc ls st0) := by
  have hFc := va_free (wc := wc) hD hS hA isC hC
  refine va_callv (va_runV (As := As) (rest := rest) (b := b) (g := F0 m pc ls st0) S hM cw ⟨pW_blind, hr, pW_at (hP.sub isC (fm_of_map hC)) (hD.sub isC hnC hC) hK hN⟩ rfl hn hsz hst (lv_room (m := m) (pc := pc) (ls := ls) (rest := st0) hW) hdg hf) hS (fun q _ h => hFc q h) hFc (fun u t H1 locs1 ht hvm hw hB hz1 hk1 hS1 => ?_)
  subst hw
  obtain ⟨hP1, hD1⟩ := hB
  rw [ht] at hP1
  obtain ⟨h1, h2⟩ := wc_back hP hD isC isR isP hC hR hnR hdis hk1 hFc hP1 hD1 hp hnP (H0 := H0)
  exact kk H1 locs1 h1 h2 hS1
theorem wcSv {σ : Type} {wo : σ → va_W} {x : σ} {A : Nat → Prop} {ws9 wr ws' : va_W} {H0 : Heap} {mc ms : Nat} (S : CallFix p m c cc nL s args Ts own) (hM : Met l y ws rm (pW D tys wc H.size As) (va_Qv (fun u => u = x) (qW D wo (va_A wc H.size)) (va_A wc H.size)) mc ms (va_A wc H.size)) (cw : CallB R s args own index y bytes maxL ret ws rm mc ms n ∧ (Cond.static y).before args s = true) (hP : va_P D vwCl ws9 H) (hD : va_D A ws9) (hS : va_S A H0 H locs) (hA : ∀ q, H0.size ≤ q → A q) (hK : va_K D vwCl tys s) (hN : nwk s)
    (isC isR isP : List Nat) (hC : isC.map (fun i => ws9[i]?) = wc.map some) (hnC : va_nd isC = true) (hR : isR.map (fun i => ws9[i]?) = wr.map some) (hnR : va_nd isR = true) (hdis : ∀ i ∈ isR, i ∉ isC) (hp : isP.map (fun i => (wr ++ wo x)[i]?) = ws'.map some) (hnP : va_nd isP = true)
    (hst : st0 = As.reverse ++ rest) (hn : As.length = n) (hsz : ls.size = nL) (hW : (rest.map fun v => v.category).sum ≤ 8) (hdg : decode cc pc = .ok (.invokestatic index, 3)) (hf : cells + mc ≤ R.cells ∧ slots + ms ≤ R.slots)
    (kk : ∀ (H1 : Heap) (locs1 : List Loc), va_P D vwCl ws' H1 → va_D A ws' → va_S A H0 H1 locs1 → W p l e R s m args below meth c H1 locs1 (cells + mc) (slots + ms) Q (F0 m (pc + 3) ls rest)) : W p l e R s m args below meth c H locs cells slots Q (F0 m pc ls st0) := by
  have hFc := va_free (wc := wc) hD hS hA isC hC
  refine va_callv (va_runS (As := As) (rest := rest) (g := F0 m pc ls st0) S hM cw ⟨pW_blind, pW_at (hP.sub isC (fm_of_map hC)) (hD.sub isC hnC hC) hK hN⟩ rfl hn hsz hst (lv_room (m := m) (pc := pc) (ls := ls) (rest := st0) hW) hdg hf) hS (fun q _ h => hFc q h) hFc (fun u t H1 locs1 ht hvm hw hB hz1 hk1 hS1 => ?_)
  subst hw
  obtain ⟨hP1, hD1⟩ := hB
  rw [ht] at hP1
  obtain ⟨h1, h2⟩ := wc_back hP hD isC isR isP hC hR hnR hdis hk1 hFc hP1 hD1 hp hnP (H0 := H0)
  exact kk H1 locs1 h1 h2 hS1
/-- two branches that come together with one value more -/
theorem W_itei {P : Prop} [Decidable P] {a b : Int32} {J : Nat} {ls9 : Array Slot} {rest9 : List Value} {g : JFrame} (kb : (P → W p l e R s m args below meth c H locs cells slots Q (F0 m J ls9 (.int a :: rest9))) → (¬ P → W p l e R s m args below meth c H locs cells slots Q (F0 m J ls9 (.int b :: rest9))) → W p l e R s m args below meth c H locs cells slots Q g)
    (kJ : W p l e R s m args below meth c H locs cells slots Q (F0 m J ls9 (.int (if P then a else b) :: rest9))) : W p l e R s m args below meth c H locs cells slots Q g :=
  kb (fun h => by rw [if_pos h] at kJ; exact kJ) (fun h => by rw [if_neg h] at kJ; exact kJ)
theorem W_itel {P : Prop} [Decidable P] {a b : Int64} {J : Nat} {ls9 : Array Slot} {rest9 : List Value} {g : JFrame} (kb : (P → W p l e R s m args below meth c H locs cells slots Q (F0 m J ls9 (.long a :: rest9))) → (¬ P → W p l e R s m args below meth c H locs cells slots Q (F0 m J ls9 (.long b :: rest9))) → W p l e R s m args below meth c H locs cells slots Q g)
    (kJ : W p l e R s m args below meth c H locs cells slots Q (F0 m J ls9 (.long (if P then a else b) :: rest9))) : W p l e R s m args below meth c H locs cells slots Q g :=
  kb (fun h => by rw [if_pos h] at kJ; exact kJ) (fun h => by rw [if_neg h] at kJ; exact kJ)
/-- two branches that come together with other locals -/
theorem W_itL {P : Prop} [Decidable P] {A9 B9 : Array Slot → Prop} {J : Nat} {rest9 : List Value} {g : JFrame} (kb : (P → ∀ ls9, A9 ls9 → W p l e R s m args below meth c H locs cells slots Q (F0 m J ls9 rest9)) → (¬ P → ∀ ls9, B9 ls9 → W p l e R s m args below meth c H locs cells slots Q (F0 m J ls9 rest9)) → W p l e R s m args below meth c H locs cells slots Q g)
    (kJ : ∀ ls9, (if P then A9 ls9 else B9 ls9) → W p l e R s m args below meth c H locs cells slots Q (F0 m J ls9 rest9)) : W p l e R s m args below meth c H locs cells slots Q g :=
  kb (fun h ls9 q => kJ ls9 (by rw [if_pos h]; exact q)) (fun h ls9 q => kJ ls9 (by rw [if_neg h]; exact q))
/-- a loop that only reads -/
theorem W_lpR (B : Nat) (I : Nat → Array Slot → Prop) {pc : Nat} (h0 : I 0 ls)
    (hs : ∀ (k : Nat) (ls9 : Array Slot), k < B → I k ls9 → (∀ ls8 : Array Slot, I (k + 1) ls8 → W p l e R s m args below meth c H locs cells slots Q (F0 m pc ls8 rest)) → W p l e R s m args below meth c H locs cells slots Q (F0 m pc ls9 rest))
    (hx : ∀ ls9 : Array Slot, I B ls9 → W p l e R s m args below meth c H locs cells slots Q (F0 m pc ls9 rest)) : W p l e R s m args below meth c H locs cells slots Q (F0 m pc ls rest) := by
  have key : ∀ (r k : Nat) (ls9 : Array Slot), k + r = B → I k ls9 → W p l e R s m args below meth c H locs cells slots Q (F0 m pc ls9 rest) := by
    intro r
    induction r with
    | zero => intro k ls9 h hI; rw [Nat.add_zero] at h; subst h; exact hx ls9 hI
    | succ r ih => intro k ls9 h hI; exact hs k ls9 (by omega) hI (fun ls8 hI8 => ih (k + 1) ls8 (by omega) hI8)
  exact key B 0 ls (Nat.zero_add B) h0
/-- a loop that writes -/
theorem W_lpW (B : Nat) (I : Nat → Heap → List Loc → Array Slot → Prop) {pc : Nat} (h0 : I 0 H locs ls)
    (hs : ∀ (k : Nat) (H9 : Heap) (locs9 : List Loc) (ls9 : Array Slot), k < B → I k H9 locs9 ls9 → (∀ (H8 : Heap) (locs8 : List Loc) (ls8 : Array Slot), I (k + 1) H8 locs8 ls8 → W p l e R s m args below meth c H8 locs8 cells slots Q (F0 m pc ls8 rest)) → W p l e R s m args below meth c H9 locs9 cells slots Q (F0 m pc ls9 rest))
    (hx : ∀ (H9 : Heap) (locs9 : List Loc) (ls9 : Array Slot), I B H9 locs9 ls9 → W p l e R s m args below meth c H9 locs9 cells slots Q (F0 m pc ls9 rest)) : W p l e R s m args below meth c H locs cells slots Q (F0 m pc ls rest) := by
  have key : ∀ (r k : Nat) (H9 : Heap) (locs9 : List Loc) (ls9 : Array Slot), k + r = B → I k H9 locs9 ls9 → W p l e R s m args below meth c H9 locs9 cells slots Q (F0 m pc ls9 rest) := by
    intro r
    induction r with
    | zero => intro k H9 locs9 ls9 h hI; rw [Nat.add_zero] at h; subst h; exact hx H9 locs9 ls9 hI
    | succ r ih => intro k H9 locs9 ls9 h hI; exact hs k H9 locs9 ls9 (by omega) hI (fun H8 locs8 ls8 hI8 => ih (k + 1) H8 locs8 ls8 (by omega) hI8)
  exact key B 0 H locs ls (Nat.zero_add B) h0
/-- a loop with ways out: r rounds are left, k are done -/
theorem W_ltR {σ : Type} (B : Nat) (I : Nat → Nat → σ → Array Slot → Prop) {pc : Nat} (σ0 : σ) (h0 : I B 0 σ0 ls)
    (hs : ∀ (r k : Nat) (x : σ) (ls9 : Array Slot), k + (r + 1) = B → I (r + 1) k x ls9 → (∀ (x8 : σ) (ls8 : Array Slot), I r (k + 1) x8 ls8 → W p l e R s m args below meth c H locs cells slots Q (F0 m pc ls8 rest)) → W p l e R s m args below meth c H locs cells slots Q (F0 m pc ls9 rest))
    (hx : ∀ (k : Nat) (x : σ) (ls9 : Array Slot), k = B → I 0 k x ls9 → W p l e R s m args below meth c H locs cells slots Q (F0 m pc ls9 rest)) : W p l e R s m args below meth c H locs cells slots Q (F0 m pc ls rest) := by
  have key : ∀ (r k : Nat) (x : σ) (ls9 : Array Slot), k + r = B → I r k x ls9 → W p l e R s m args below meth c H locs cells slots Q (F0 m pc ls9 rest) := by
    intro r
    induction r with
    | zero => intro k x ls9 h hI; exact hx k x ls9 h hI
    | succ r ih => intro k x ls9 h hI; exact hs r k x ls9 h hI (fun x8 ls8 hI8 => ih (k + 1) x8 ls8 (by omega) hI8)
  exact key B 0 σ0 ls (Nat.zero_add B) h0
theorem W_ltW {σ : Type} (B : Nat) (I : Nat → Nat → σ → Heap → List Loc → Array Slot → Prop) {pc : Nat} (σ0 : σ) (h0 : I B 0 σ0 H locs ls)
    (hs : ∀ (r k : Nat) (x : σ) (H9 : Heap) (locs9 : List Loc) (ls9 : Array Slot), k + (r + 1) = B → I (r + 1) k x H9 locs9 ls9 → (∀ (x8 : σ) (H8 : Heap) (locs8 : List Loc) (ls8 : Array Slot), I r (k + 1) x8 H8 locs8 ls8 → W p l e R s m args below meth c H8 locs8 cells slots Q (F0 m pc ls8 rest)) → W p l e R s m args below meth c H9 locs9 cells slots Q (F0 m pc ls9 rest))
    (hx : ∀ (k : Nat) (x : σ) (H9 : Heap) (locs9 : List Loc) (ls9 : Array Slot), k = B → I 0 k x H9 locs9 ls9 → W p l e R s m args below meth c H9 locs9 cells slots Q (F0 m pc ls9 rest)) : W p l e R s m args below meth c H locs cells slots Q (F0 m pc ls rest) := by
  have key : ∀ (r k : Nat) (x : σ) (H9 : Heap) (locs9 : List Loc) (ls9 : Array Slot), k + r = B → I r k x H9 locs9 ls9 → W p l e R s m args below meth c H9 locs9 cells slots Q (F0 m pc ls9 rest) := by
    intro r
    induction r with
    | zero => intro k x H9 locs9 ls9 h hI; exact hx k x H9 locs9 ls9 h hI
    | succ r ih => intro k x H9 locs9 ls9 h hI; exact hs r k x H9 locs9 ls9 h hI (fun x8 H8 locs8 ls8 hI8 => ih (k + 1) x8 H8 locs8 ls8 (by omega) hI8)
  exact key B 0 σ0 H locs ls (Nat.zero_add B) h0
end UV
theorem nar_z {v : Int32} (h : v = 0 ∨ v = 1) : narrow .boolean (.int v) = .int v := by rcases h with rfl | rfl <;> rfl
theorem if_z {P : Prop} [Decidable P] {a b : Int32} (ha : a = 0 ∨ a = 1) (hb : b = 0 ∨ b = 1) : (if P then a else b) = 0 ∨ (if P then a else b) = 1 := by
  by_cases h : P
  · rw [if_pos h]; exact ha
  · rw [if_neg h]; exact hb
/-- a counter that goes down from b, -1 behind 0 -/
def dn (b k : Nat) : Int32 := if k ≤ b then nI (b - k) else -1
theorem dn_in {b k : Nat} (h : k < b + 1) : dn b k = nI (b - k) := if_pos (by omega)
theorem dn_out (b : Nat) : dn b (b + 1) = -1 := if_neg (by omega)
theorem dn_succ {b k : Nat} (h : k < b + 1) : dn b (k + 1) = dn b k + (-1) := by
  rw [dn_in h]
  by_cases q : k = b
  · subst q; rw [dn_out, Nat.sub_self]; rfl
  · rw [dn_in (by omega : k + 1 < b + 1), show b - k = (b - (k + 1)) + 1 by omega, pk_m1]
theorem dn_nneg {b k : Nat} (h : k < b + 1) (hb : b < 1000) : ¬ dn b k < 0 := by
  rw [dn_in h]; exact nI_pos (by omega)
