/-! THE LAW, 4: its words' facts, calls beside a pool, its arguments, its world -/
theorem xP {X pl : va_W} {D : va_G} {H : Heap} (h : va_P D vwCl (X ++ pl) H) : va_P D vwCl X H := h.by id (fun k q hq => by
  show (X ++ pl)[k]? = some q
  rw [List.getElem?_append_left (List.getElem?_eq_some_iff.mp hq).1]
  exact hq)
theorem xD {X pl : va_W} {A : Nat → Prop} (h : va_D A (X ++ pl)) : va_D A X := h.by id (fun k q hq => by
  show (X ++ pl)[k]? = some q
  rw [List.getElem?_append_left (List.getElem?_eq_some_iff.mp hq).1]
  exact hq) (fun _ _ _ _ e => e)
section LWB
variable {p : Program} {l : Launch} {e : Env} {R : Room} {s : State} {m : MethodId} {args : Array Value} {below : List Frame} {meth : Method} {c : Code} {H : Heap} {locs : List Loc} {cells slots : Nat} {Q : State → Prop}
variable {y : MethodName} {bytes cc : ByteArray} {maxL nL n index pc : Nat} {ret : Option FieldType} {ws : List Cond} {rm : Room} {Ts : List Cond} {own host C : String} {b : Addr} {As rest st0 : List Value} {ls : Array Slot} {D : va_G} {tys : List (ClassId × FieldType)} {wc : va_W}
theorem wcViQ {σ : Type} {wo : σ → va_W} {v : Int32} {x : σ} {A : Nat → Prop} {X pl X' : va_W} {H0 : Heap} {mc ms : Nat} (S : CallFix p m c cc nL s args Ts own) (hM : Met l y ws rm (pW D tys wc H.size (.ref b :: As)) (va_Qi (fun r u => r = v ∧ u = x) (qW D wo (va_A wc H.size)) (va_A wc H.size)) mc ms (va_A wc H.size)) (cw : CallW R s args own C index y bytes maxL ret ws rm mc ms n) (hr : ∃ cellB : Cell, H[b]? = some cellB ∧ cellB.vm.isStatics = false ∧ s.vm.findClass C = some cellB.cls) (hP : va_P D vwCl (X ++ pl) H) (hD : va_D A (X ++ pl)) (hS : va_S A H0 H locs) (hA : ∀ q, H0.size ≤ q → A q) (hK : va_K D vwCl tys s) (hN : nwk s)
    (isC isR isP : List Nat) (hC : isC.map (fun i => X[i]?) = wc.map some) (hnC : va_nd isC = true) (hR : isR.map (fun i => X[i]?) = (isR.filterMap (fun i => X[i]?)).map some) (hnR : va_nd isR = true) (hdis : ∀ i ∈ isR, i ∉ isC) (hp : isP.map (fun i => (isR.filterMap (fun i => X[i]?) ++ wo x)[i]?) = X'.map some) (hnP : va_nd isP = true)
    (hst : st0 = As.reverse ++ .ref b :: rest) (hn : As.length = n) (hsz : ls.size = nL) (hW : (rest.map fun v => v.category).sum ≤ 8) (hdg : decode cc pc = .ok (.invokevirtual index, 3)) (hf : cells + mc ≤ R.cells ∧ slots + ms ≤ R.slots)
    (kk : ∀ (H1 : Heap) (locs1 : List Loc), va_P D vwCl (X' ++ pl) H1 → va_D A (X' ++ pl) → va_S A H0 H1 locs1 → W p l e R s m args below meth c H1 locs1 (cells + mc) (slots + ms) Q (F0 m (pc + 3) ls (.int v :: rest))) : W p l e R s m args below meth c H locs cells slots Q (F0 m pc ls st0) := by
  have hFc := va_free (wc := wc) (xD hD) hS hA isC hC
  refine va_calli (va_runV (As := As) (rest := rest) (b := b) (g := F0 m pc ls st0) S hM cw ⟨pW_blind, hr, pW_at ((xP hP).sub isC (fm_of_map hC)) ((xD hD).sub isC hnC hC) hK hN⟩ rfl hn hsz hst (lv_room (m := m) (pc := pc) (ls := ls) (rest := st0) hW) hdg hf) hS (fun q _ h => hFc q h) hFc (fun r u t H1 locs1 ht hvm hw hB hz1 hk1 hS1 => ?_)
  obtain ⟨rfl, rfl⟩ := hw
  obtain ⟨hP1, hD1⟩ := hB
  rw [ht] at hP1
  obtain ⟨h1, h2⟩ := va_joinQ hP hD isC isR hC hR hnR hdis hk1 hFc hP1 hD1
  exact kk H1 locs1 (h1.part isP hp) (h2.part isP hnP hp) hS1
theorem wcVlQ {σ : Type} {wo : σ → va_W} {v : Int64} {x : σ} {A : Nat → Prop} {X pl X' : va_W} {H0 : Heap} {mc ms : Nat} (S : CallFix p m c cc nL s args Ts own) (hM : Met l y ws rm (pW D tys wc H.size (.ref b :: As)) (va_Ql (fun r u => r = v ∧ u = x) (qW D wo (va_A wc H.size)) (va_A wc H.size)) mc ms (va_A wc H.size)) (cw : CallW R s args own C index y bytes maxL ret ws rm mc ms n) (hr : ∃ cellB : Cell, H[b]? = some cellB ∧ cellB.vm.isStatics = false ∧ s.vm.findClass C = some cellB.cls) (hP : va_P D vwCl (X ++ pl) H) (hD : va_D A (X ++ pl)) (hS : va_S A H0 H locs) (hA : ∀ q, H0.size ≤ q → A q) (hK : va_K D vwCl tys s) (hN : nwk s)
    (isC isR isP : List Nat) (hC : isC.map (fun i => X[i]?) = wc.map some) (hnC : va_nd isC = true) (hR : isR.map (fun i => X[i]?) = (isR.filterMap (fun i => X[i]?)).map some) (hnR : va_nd isR = true) (hdis : ∀ i ∈ isR, i ∉ isC) (hp : isP.map (fun i => (isR.filterMap (fun i => X[i]?) ++ wo x)[i]?) = X'.map some) (hnP : va_nd isP = true)
    (hst : st0 = As.reverse ++ .ref b :: rest) (hn : As.length = n) (hsz : ls.size = nL) (hW : (rest.map fun v => v.category).sum ≤ 8) (hdg : decode cc pc = .ok (.invokevirtual index, 3)) (hf : cells + mc ≤ R.cells ∧ slots + ms ≤ R.slots)
    (kk : ∀ (H1 : Heap) (locs1 : List Loc), va_P D vwCl (X' ++ pl) H1 → va_D A (X' ++ pl) → va_S A H0 H1 locs1 → W p l e R s m args below meth c H1 locs1 (cells + mc) (slots + ms) Q (F0 m (pc + 3) ls (.long v :: rest))) : W p l e R s m args below meth c H locs cells slots Q (F0 m pc ls st0) := by
  have hFc := va_free (wc := wc) (xD hD) hS hA isC hC
  refine va_calll (va_runV (As := As) (rest := rest) (b := b) (g := F0 m pc ls st0) S hM cw ⟨pW_blind, hr, pW_at ((xP hP).sub isC (fm_of_map hC)) ((xD hD).sub isC hnC hC) hK hN⟩ rfl hn hsz hst (lv_room (m := m) (pc := pc) (ls := ls) (rest := st0) hW) hdg hf) hS (fun q _ h => hFc q h) hFc (fun r u t H1 locs1 ht hvm hw hB hz1 hk1 hS1 => ?_)
  obtain ⟨rfl, rfl⟩ := hw
  obtain ⟨hP1, hD1⟩ := hB
  rw [ht] at hP1
  obtain ⟨h1, h2⟩ := va_joinQ hP hD isC isR hC hR hnR hdis hk1 hFc hP1 hD1
  exact kk H1 locs1 (h1.part isP hp) (h2.part isP hnP hp) hS1
/-- a call that makes cells: what it made is not known by name -/
theorem wcViE {σ : Type} {wo : σ → va_W} {v : Int32} {A : Nat → Prop} {X pl : va_W} {H0 : Heap} {mc ms : Nat} (S : CallFix p m c cc nL s args Ts own) (hM : Met l y ws rm (pW D tys wc H.size (.ref b :: As)) (va_Qi (fun r (_ : σ) => r = v) (qW D wo (va_A wc H.size)) (va_A wc H.size)) mc ms (va_A wc H.size)) (cw : CallW R s args own C index y bytes maxL ret ws rm mc ms n) (hr : ∃ cellB : Cell, H[b]? = some cellB ∧ cellB.vm.isStatics = false ∧ s.vm.findClass C = some cellB.cls) (hP : va_P D vwCl (X ++ pl) H) (hD : va_D A (X ++ pl)) (hS : va_S A H0 H locs) (hA : ∀ q, H0.size ≤ q → A q) (hK : va_K D vwCl tys s) (hN : nwk s)
    (isC isR : List Nat) (hC : isC.map (fun i => X[i]?) = wc.map some) (hnC : va_nd isC = true) (hR : isR.map (fun i => X[i]?) = (isR.filterMap (fun i => X[i]?)).map some) (hnR : va_nd isR = true) (hdis : ∀ i ∈ isR, i ∉ isC)
    (hst : st0 = As.reverse ++ .ref b :: rest) (hn : As.length = n) (hsz : ls.size = nL) (hW : (rest.map fun v => v.category).sum ≤ 8) (hdg : decode cc pc = .ok (.invokevirtual index, 3)) (hf : cells + mc ≤ R.cells ∧ slots + ms ≤ R.slots)
    (kk : ∀ (u : σ) (H1 : Heap) (locs1 : List Loc), va_P D vwCl ((isR.filterMap (fun i => X[i]?) ++ wo u) ++ pl) H1 → va_D A ((isR.filterMap (fun i => X[i]?) ++ wo u) ++ pl) → va_S A H0 H1 locs1 → W p l e R s m args below meth c H1 locs1 (cells + mc) (slots + ms) Q (F0 m (pc + 3) ls (.int v :: rest))) : W p l e R s m args below meth c H locs cells slots Q (F0 m pc ls st0) := by
  have hFc := va_free (wc := wc) (xD hD) hS hA isC hC
  refine va_calli (va_runV (As := As) (rest := rest) (b := b) (g := F0 m pc ls st0) S hM cw ⟨pW_blind, hr, pW_at ((xP hP).sub isC (fm_of_map hC)) ((xD hD).sub isC hnC hC) hK hN⟩ rfl hn hsz hst (lv_room (m := m) (pc := pc) (ls := ls) (rest := st0) hW) hdg hf) hS (fun q _ h => hFc q h) hFc (fun r u t H1 locs1 ht hvm hw hB hz1 hk1 hS1 => ?_)
  obtain rfl := hw
  obtain ⟨hP1, hD1⟩ := hB
  rw [ht] at hP1
  obtain ⟨h1, h2⟩ := va_joinQ hP hD isC isR hC hR hnR hdis hk1 hFc hP1 hD1
  exact kk u H1 locs1 h1 h2 hS1
/-- an int of the script onto the stack -/
theorem lw_arg {b L : Nat} {xs : Nat → Int32} {A : Nat → Prop} {H0 : Heap} (hx : p.tables.exec = Jvm.exec) (hb : c.code = code) (hX : va_X b L xs s H0) (hbl : b < H0.size) (hbA : ¬ A b) (hS : va_S A H0 H locs) {i k : Nat} (hL : L ≤ 3072) (h0 : ls[0]? = some (.val (.ref b))) (h3 : ls[3]? = some (.val (.int (nI i)))) (hik : i + k < L) {n : Int} (hn : Int32.ofInt n = nI k) (d0 : decode code pc = .ok (.aload_n 0, 1)) (d1 : decode code (pc + 1) = .ok (.iload_n 3, 1)) (d2 : decode code (pc + 1 + 1) = .ok (.iconst n, 1)) (d3 : decode code (pc + 1 + 1 + 1) = .ok (.iadd, 1)) (d4 : decode code (pc + 1 + 1 + 1 + 1) = .ok (.iaload, 1))
    (kk : W p l e R s m args below meth c H locs cells slots Q (F0 m (pc + 1 + 1 + 1 + 1 + 1) ls (.int (xs (i + k)) :: rest))) : W p l e R s m args below meth c H locs cells slots Q (F0 m pc ls rest) := by
  refine lv_aload_n hx hb d0 rfl h0 ?_
  refine lv_iload_n hx hb d1 rfl h3 ?_
  refine lv_iconst (v := nI k) hx hb d2 hn ?_
  refine lv_iadd hx hb d3 ?_
  rw [nI_add]
  refine va_sld hx hb hX hbl hbA hS (vp_in_nI hik (by omega)) d4 ?_
  rw [nI_clamp (by omega)]
  exact kk
/-- an int as a truth value -/
def bz (v : Int32) : Int32 := if v = 0 then 0 else 1
theorem lw_bool (hx : p.tables.exec = Jvm.exec) (hb : c.code = code) {v : Int32} (d0 : decode code pc = .ok (.ifCond .eq 7, 3)) (d1 : decode code (pc + 3) = .ok (.iconst 1, 1)) (d2 : decode code (pc + 3 + 1) = .ok (.goto 4, 3)) (d3 : decode code (pc + 7) = .ok (.iconst 0, 1))
    (kk : W p l e R s m args below meth c H locs cells slots Q (F0 m (pc + 7 + 1) ls (.int (bz v) :: rest))) : W p l e R s m args below meth c H locs cells slots Q (F0 m pc ls (.int v :: rest)) := by
  refine lv_if_eq (tgt := pc + 7) hx hb d0 (by omega) (fun z => ?_) (fun z => ?_)
  · refine lv_iconst (v := 0) hx hb d3 (by decide) ?_
    have : bz v = 0 := if_pos z
    rw [this] at kk
    exact kk
  · refine lv_iconst (v := 1) hx hb d1 (by decide) ?_
    refine lv_goto (tgt := pc + 7 + 1) hx hb d2 (by omega) ?_
    have : bz v = 1 := if_neg z
    rw [this] at kk
    exact kk
theorem lw_same (hx : p.tables.exec = Jvm.exec) (hb : c.code = code) {v w : Int32} (ev : v = w) {off : Int} (d : decode code pc = .ok (.if_icmp .eq off, 3)) (ht : (pc : Int) + off = ((894 : Nat) : Int)) (kk : W p l e R s m args below meth c H locs cells slots Q (F0 m 894 ls rest)) : W p l e R s m args below meth c H locs cells slots Q (F0 m pc ls (.int w :: .int v :: rest)) :=
  lv_icmp_eq (tgt := 894) hx hb d ht (fun _ => kk) (fun z => absurd ev z)
theorem lw_sameL (hx : p.tables.exec = Jvm.exec) (hb : c.code = code) {v w : Int64} (ev : v = w) {off : Int} (d0 : decode code pc = .ok (.lcmp, 1)) (d : decode code (pc + 1) = .ok (.ifCond .eq off, 3)) (ht : ((pc + 1 : Nat) : Int) + off = ((894 : Nat) : Int)) (kk : W p l e R s m args below meth c H locs cells slots Q (F0 m 894 ls rest)) : W p l e R s m args below meth c H locs cells slots Q (F0 m pc ls (.long w :: .long v :: rest)) := by
  refine W.lcmp hx hb d0 ?_
  exact lv_if_eq (tgt := 894) hx hb d ht (fun _ => kk) (fun z => absurd ((lg_cmp_eq _ _).mpr ev) z)
end LWB
-- the law's world
abbrev xV : Type := Nat → Option (Nat × (Nat → Nat) × OV)
/-- a kept image's cells -/
def pk (cI : ClassId) (x : Option (Nat × (Nat → Nat) × OV)) : va_W := match x with
  | none => []
  | some y => wX0 cI y.1 y.2.1 y.2.2
abbrev wB (cI cZ cC : ClassId) (hq hc hu hi hg hy hw hm : Nat) (ac au ag ay aw am : Nat → Nat) (f : Nat → Option Nat) (oc ou og oy ow om : OV) : va_W := wX4 hq hc hu hi hg hy hw ++ wX0 cI hc ac oc ++ wX0 cI hu au ou ++ wXi cC hi f ++ wX2 cI hg ag og ++ wX1 cI hc hy ay oy ++ wX3 cI hw aw ow ++ wX5 cI cZ hm am om
/-- the kept images: the class's and the reference's -/
def rQ (x : xV) (g : Nat → Option KV) (f : Nat → Option Nat) : Prop := ∀ i, i < 2 → f i = (x i).map (fun y => y.1) ∧ (x i = none → g i = none) ∧ ∀ y, x i = some y → ∃ K, g i = some K ∧ rC K y.2.2
/-- class and reference hold the same -/
def vI (oc og om : OV) (f : Nat → Option Nat) (x : xV) : Prop := ∃ (K : KV) (g : Nat → Option KV), RK K oc om ∧ rP og om ∧ rI g om ∧ rQ x g f
theorem cok_rM {K : KV} {om : OV} (hK : kok K) (hM : rM K om) : cok5 om := ⟨fun j hj => ⟨K.2 9 j, hK.2.2.1 j hj, hM.2.2 j hj⟩, kw K 10, by have := hK.2.2.2; omega, kw_le hK 10 (Nat.le_refl _), M_weights hM⟩
theorem h6_rM {K : KV} {om : OV} (hK : kok K) (hM : rM K om) : ∃ b : Nat, b < 64 ∧ om.1 0 = nI b := ⟨K.1 2, hK.1.2.2.1, hM.1.1⟩
theorem hs_rM {K : KV} {om : OV} (hK : kok K) (hM : rM K om) : (om.1 11).toNatClampNeg ≤ 6 ∧ om.1 11 = nI (om.1 11).toNatClampNeg := by
  have h := hM.1.2.2.2.2.2
  have h2 := hK.1.2.2.2.2.2.2
  have e : (om.1 11).toNatClampNeg = K.1 6 := by rw [h, nI_clamp (by omega)]
  exact ⟨by rw [e]; exact h2, by rw [e]; exact h⟩
theorem vI_frm {K : KV} {oc oc' og om om' : OV} {f : Nat → Option Nat} {x : xV} {g : Nat → Option KV} (hR : RK K oc' om') (hp : rP og om) (hI : rI g om) (hQ : rQ x g f) (hf : frm om om') : vI oc' og om' f x := ⟨K, g, hR, rP_frm hp hf, rI_frm hI hf, hQ⟩
theorem rI_frp {g : Nat → Option KV} {om om' : OV} (h : rI g om) (hf : frp om om') : rI g om' := by
  intro i hi
  have q := h i hi
  unfold kI at q ⊢
  rw [hf.2 20 (by decide), hf.2 21 (by decide)]
  exact q
theorem vI_frp {K : KV} {oc og og' om om' : OV} {f : Nat → Option Nat} {x : xV} {g : Nat → Option KV} (hR : RK K oc om) (hp : rP og' om') (hI : rI g om) (hQ : rQ x g f) (hf : frp om om') : vI oc og' om' f x := ⟨K, g, ⟨hR.1, hR.2.1, rM_frp hR.2.2 hf⟩, hp, rI_frp hI hf, hQ⟩
