/-! THE LAW, 4: its words' facts, calls beside a pool, its arguments, its world -/
theorem perm_idx {α : Type} {Bs Bs' : List α} (is : List Nat) (h : is.Perm (List.range is.length)) (hl : Bs.length = is.length) (h2 : is.map (fun i => Bs[i]?) = Bs'.map some) : Bs.Perm Bs' := by
  have e : (List.range Bs.length).map (fun i => Bs[i]?) = Bs.map some := by
    refine List.ext_getElem? fun k => ?_
    rw [List.getElem?_map, List.getElem?_map]
    rcases Nat.lt_or_ge k Bs.length with q | q
    · rw [List.getElem?_range q, List.getElem?_eq_getElem q]
      exact congrArg some (List.getElem?_eq_getElem q)
    · rw [List.getElem?_eq_none (by rw [List.length_range]; exact q), List.getElem?_eq_none q]
      rfl
  rw [← hl] at h
  have p := h.map (fun i => Bs[i]?)
  rw [h2, e] at p
  have p2 := p.filterMap (fun z => z)
  have f : ∀ l : List α, (l.map some).filterMap (fun z => z) = l := fun l => by
    induction l with
    | nil => rfl
    | cons a l ih => rw [List.map_cons, List.filterMap_cons, ih]
  rw [f, f] at p2
  exact p2.symm
theorem fl_perm {α : Type} {l1 l2 : List (List α)} (h : l1.Perm l2) : l1.flatten.Perm l2.flatten := by
  induction h with
  | nil => exact List.Perm.refl _
  | cons a _ ih => rw [List.flatten_cons, List.flatten_cons]; exact ih.append_left a
  | swap a b l =>
    rw [List.flatten_cons, List.flatten_cons, List.flatten_cons, List.flatten_cons, ← List.append_assoc, ← List.append_assoc]
    exact List.perm_append_comm.append_right _
  | trans _ _ i1 i2 => exact i1.trans i2
theorem va_P_pm {D : va_G} {cl : List vw_C} {w w' : va_W} {H : Heap} (h : va_P D cl w H) (hs : ∀ q ∈ w', q ∈ w) : va_P D cl w' H := fun k q hk => by
  obtain ⟨i, hi⟩ := List.mem_iff_getElem?.mp (hs q (List.mem_of_getElem? hk))
  exact h i q hi
theorem va_D_nd {A : Nat → Prop} {w : va_W} : va_D A w ↔ (w.map (fun q => q.1)).Nodup ∧ ∀ q ∈ w, A q.1 := by
  constructor
  · intro h
    refine ⟨List.pairwise_iff_getElem.mpr fun i j hi hj hij => ?_, fun q hq => ?_⟩
    · rw [List.length_map] at hi hj
      rw [List.getElem_map, List.getElem_map]
      intro z
      have := h.1 i j w[i] w[j] (List.getElem?_eq_getElem hi) (List.getElem?_eq_getElem hj) z
      omega
    · obtain ⟨i, hi⟩ := List.mem_iff_getElem?.mp hq
      exact h.2 i q hi
  · intro h
    have key := List.pairwise_iff_getElem.mp h.1
    have lt : ∀ (i j : Nat) (p q : Nat × va_E), w[i]? = some p → w[j]? = some q → p.1 = q.1 → ¬ i < j := by
      intro i j p q hi hj e hij
      obtain ⟨a1, a2⟩ := List.getElem?_eq_some_iff.mp hi
      obtain ⟨b1, b2⟩ := List.getElem?_eq_some_iff.mp hj
      have := key i j (by rw [List.length_map]; exact a1) (by rw [List.length_map]; exact b1) hij
      rw [List.getElem_map, List.getElem_map, a2, b2] at this
      exact this e
    refine ⟨fun i j p q hi hj e => ?_, fun k q hk => h.2 q (List.mem_of_getElem? hk)⟩
    have x1 := lt i j p q hi hj e
    have x2 := lt j i q p hj hi e.symm
    omega
theorem va_D_pm {A : Nat → Prop} {w w' : va_W} (h : va_D A w) (hp : w.Perm w') : va_D A w' := by
  obtain ⟨h1, h2⟩ := va_D_nd.mp h
  exact va_D_nd.mpr ⟨(hp.map _).nodup_iff.mp h1, fun q hq => h2 q (hp.mem_iff.mpr hq)⟩
theorem va_P_p {D : va_G} {cl : List vw_C} {w w' : va_W} {H : Heap} (h : va_P D cl w H) (hp : w.Perm w') : va_P D cl w' H := va_P_pm h (fun _ hq => hp.mem_iff.mpr hq)
/-- some blocks of a world -/
theorem va_Pb {D : va_G} {cl : List vw_C} {Bs bs : List va_W} {wc : va_W} {H : Heap} (h : va_P D cl Bs.flatten H) (is : List Nat) (h2 : is.map (fun i => Bs[i]?) = bs.map some) (hc : bs.flatten = wc) : va_P D cl wc H := by
  subst hc
  refine va_P_pm h fun q hq => ?_
  obtain ⟨b, hb, hqb⟩ := List.mem_flatten.mp hq
  have h3 : some b ∈ bs.map some := List.mem_map.mpr ⟨b, hb, rfl⟩
  rw [← h2] at h3
  obtain ⟨i, -, hi⟩ := List.mem_map.mp h3
  exact List.mem_flatten.mpr ⟨b, List.mem_of_getElem? hi, hqb⟩
theorem va_rg (w : va_W) : (List.range w.length).map (fun i => w[i]?) = w.map some := by
  refine List.ext_getElem? fun k => ?_
  rw [List.getElem?_map, List.getElem?_map]
  rcases Nat.lt_or_ge k w.length with q | q
  · rw [List.getElem?_range q, List.getElem?_eq_getElem q]
    exact congrArg some (List.getElem?_eq_getElem q)
  · rw [List.getElem?_eq_none (by rw [List.length_range]; exact q), List.getElem?_eq_none q]
    rfl
theorem va_Dl {A : Nat → Prop} {X pl : va_W} (h : va_D A (X ++ pl)) : va_D A X := h.by id (fun k q hq => by
  show (X ++ pl)[k]? = some q
  rw [List.getElem?_append_left (List.getElem?_eq_some_iff.mp hq).1]
  exact hq) (fun _ _ _ _ e => e)
section LWB
variable {p : Program} {l : Launch} {e : Env} {R : Room} {s : State} {m : MethodId} {args : Array Value} {below : List Frame} {meth : Method} {c : Code} {H : Heap} {locs : List Loc} {cells slots : Nat} {Q : State → Prop}
variable {y : MethodName} {bytes cc : ByteArray} {maxL nL n index pc : Nat} {ret : Option FieldType} {ws : List Cond} {rm : Room} {Ts : List Cond} {own host C : String} {b : Addr} {As rest st0 : List Value} {ls : Array Slot} {D : va_G} {tys : List (ClassId × FieldType)} {wc : va_W}
theorem wcViB {σ : Type} {wo : σ → va_W} {v : Int32} {x : σ} {A : Nat → Prop} {Bs bsC bsR : List va_W} {Bs' : List va_W} {H0 : Heap} {mc ms : Nat} (S : CallFix p m c cc nL s args Ts own) (hM : Met l y ws rm (pW D tys wc H.size (.ref b :: As)) (va_Qi (fun r u => r = v ∧ u = x) (qW D wo (va_A wc H.size)) (va_A wc H.size)) mc ms (va_A wc H.size)) (cw : CallW R s args own C index y bytes maxL ret ws rm mc ms n) (hr : ∃ cellB : Cell, H[b]? = some cellB ∧ cellB.vm.isStatics = false ∧ s.vm.findClass C = some cellB.cls) (hP : va_P D vwCl Bs.flatten H) (hD : va_D A Bs.flatten) (hS : va_S A H0 H locs) (hA : ∀ q, H0.size ≤ q → A q) (hK : va_K D vwCl tys s) (hN : nwk s)
    (is is' : List Nat) (bsX : List va_W) (hC : bsC.flatten = wc) (h1 : is.Perm (List.range is.length)) (hl1 : Bs.length = is.length) (h2 : is.map (fun i => Bs[i]?) = (bsC ++ bsR).map some) (hX : bsX.flatten = wo x) (h3 : is'.Perm (List.range is'.length)) (hl3 : (bsX ++ bsR).length = is'.length) (h4 : is'.map (fun i => (bsX ++ bsR)[i]?) = Bs'.map some)
    (hst : st0 = As.reverse ++ .ref b :: rest) (hn : As.length = n) (hsz : ls.size = nL) (hW : (rest.map fun v => v.category).sum ≤ 8) (hdg : decode cc pc = .ok (.invokevirtual index, 3)) (hf : cells + mc ≤ R.cells ∧ slots + ms ≤ R.slots)
    (kk : ∀ (H1 : Heap) (locs1 : List Loc), va_P D vwCl Bs'.flatten H1 → va_D A Bs'.flatten → va_S A H0 H1 locs1 → W p l e R s m args below meth c H1 locs1 (cells + mc) (slots + ms) Q (F0 m (pc + 3) ls (.int v :: rest))) : W p l e R s m args below meth c H locs cells slots Q (F0 m pc ls st0) := by
  subst hC
  have pm := fl_perm (perm_idx is h1 hl1 h2)
  rw [List.flatten_append] at pm
  have hP := va_P_p hP pm
  have hD := va_D_pm hD pm
  have hrg := va_rg bsC.flatten
  have hPX : va_P D vwCl bsC.flatten H := va_P_pm hP (fun _ hq => List.mem_append_left _ hq)
  have hDX := va_Dl hD
  have hFc := va_free (wc := bsC.flatten) hDX hS hA _ hrg
  refine va_calli (va_runV (As := As) (rest := rest) (b := b) (g := F0 m pc ls st0) S hM cw ⟨pW_blind, hr, pW_at hPX hDX hK hN⟩ rfl hn hsz hst (lv_room (m := m) (pc := pc) (ls := ls) (rest := st0) hW) hdg hf) hS (fun q _ h => hFc q h) hFc (fun r u t H1 locs1 ht hvm hw hB hz1 hk1 hS1 => ?_)
  obtain ⟨rfl, rfl⟩ := hw
  obtain ⟨hP1, hD1⟩ := hB
  rw [ht] at hP1
  obtain ⟨g1, g2⟩ := va_joinQ (wr := []) hP hD _ [] hrg rfl rfl (fun _ h => absurd h List.not_mem_nil) hk1 hFc hP1 hD1
  rw [List.nil_append, ← hX, ← List.flatten_append] at g1 g2
  have pm2 := fl_perm (perm_idx is' h3 hl3 h4)
  exact kk H1 locs1 (va_P_p g1 pm2) (va_D_pm g2 pm2) hS1
theorem wcVlB {σ : Type} {wo : σ → va_W} {v : Int64} {x : σ} {A : Nat → Prop} {Bs bsC bsR : List va_W} {Bs' : List va_W} {H0 : Heap} {mc ms : Nat} (S : CallFix p m c cc nL s args Ts own) (hM : Met l y ws rm (pW D tys wc H.size (.ref b :: As)) (va_Ql (fun r u => r = v ∧ u = x) (qW D wo (va_A wc H.size)) (va_A wc H.size)) mc ms (va_A wc H.size)) (cw : CallW R s args own C index y bytes maxL ret ws rm mc ms n) (hr : ∃ cellB : Cell, H[b]? = some cellB ∧ cellB.vm.isStatics = false ∧ s.vm.findClass C = some cellB.cls) (hP : va_P D vwCl Bs.flatten H) (hD : va_D A Bs.flatten) (hS : va_S A H0 H locs) (hA : ∀ q, H0.size ≤ q → A q) (hK : va_K D vwCl tys s) (hN : nwk s)
    (is is' : List Nat) (bsX : List va_W) (hC : bsC.flatten = wc) (h1 : is.Perm (List.range is.length)) (hl1 : Bs.length = is.length) (h2 : is.map (fun i => Bs[i]?) = (bsC ++ bsR).map some) (hX : bsX.flatten = wo x) (h3 : is'.Perm (List.range is'.length)) (hl3 : (bsX ++ bsR).length = is'.length) (h4 : is'.map (fun i => (bsX ++ bsR)[i]?) = Bs'.map some)
    (hst : st0 = As.reverse ++ .ref b :: rest) (hn : As.length = n) (hsz : ls.size = nL) (hW : (rest.map fun v => v.category).sum ≤ 8) (hdg : decode cc pc = .ok (.invokevirtual index, 3)) (hf : cells + mc ≤ R.cells ∧ slots + ms ≤ R.slots)
    (kk : ∀ (H1 : Heap) (locs1 : List Loc), va_P D vwCl Bs'.flatten H1 → va_D A Bs'.flatten → va_S A H0 H1 locs1 → W p l e R s m args below meth c H1 locs1 (cells + mc) (slots + ms) Q (F0 m (pc + 3) ls (.long v :: rest))) : W p l e R s m args below meth c H locs cells slots Q (F0 m pc ls st0) := by
  subst hC
  have pm := fl_perm (perm_idx is h1 hl1 h2)
  rw [List.flatten_append] at pm
  have hP := va_P_p hP pm
  have hD := va_D_pm hD pm
  have hrg := va_rg bsC.flatten
  have hPX : va_P D vwCl bsC.flatten H := va_P_pm hP (fun _ hq => List.mem_append_left _ hq)
  have hDX := va_Dl hD
  have hFc := va_free (wc := bsC.flatten) hDX hS hA _ hrg
  refine va_calll (va_runV (As := As) (rest := rest) (b := b) (g := F0 m pc ls st0) S hM cw ⟨pW_blind, hr, pW_at hPX hDX hK hN⟩ rfl hn hsz hst (lv_room (m := m) (pc := pc) (ls := ls) (rest := st0) hW) hdg hf) hS (fun q _ h => hFc q h) hFc (fun r u t H1 locs1 ht hvm hw hB hz1 hk1 hS1 => ?_)
  obtain ⟨rfl, rfl⟩ := hw
  obtain ⟨hP1, hD1⟩ := hB
  rw [ht] at hP1
  obtain ⟨g1, g2⟩ := va_joinQ (wr := []) hP hD _ [] hrg rfl rfl (fun _ h => absurd h List.not_mem_nil) hk1 hFc hP1 hD1
  rw [List.nil_append, ← hX, ← List.flatten_append] at g1 g2
  have pm2 := fl_perm (perm_idx is' h3 hl3 h4)
  exact kk H1 locs1 (va_P_p g1 pm2) (va_D_pm g2 pm2) hS1
theorem wcVeB {σ : Type} {wo : σ → va_W} {v : Int32} {A : Nat → Prop} {Bs bsC bsR : List va_W} {Bs' : σ → List va_W} {H0 : Heap} {mc ms : Nat} (S : CallFix p m c cc nL s args Ts own) (hM : Met l y ws rm (pW D tys wc H.size (.ref b :: As)) (va_Qi (fun r (_ : σ) => r = v) (qW D wo (va_A wc H.size)) (va_A wc H.size)) mc ms (va_A wc H.size)) (cw : CallW R s args own C index y bytes maxL ret ws rm mc ms n) (hr : ∃ cellB : Cell, H[b]? = some cellB ∧ cellB.vm.isStatics = false ∧ s.vm.findClass C = some cellB.cls) (hP : va_P D vwCl Bs.flatten H) (hD : va_D A Bs.flatten) (hS : va_S A H0 H locs) (hA : ∀ q, H0.size ≤ q → A q) (hK : va_K D vwCl tys s) (hN : nwk s)
    (is is' : List Nat) (bsX : σ → List va_W) (hC : bsC.flatten = wc) (h1 : is.Perm (List.range is.length)) (hl1 : Bs.length = is.length) (h2 : is.map (fun i => Bs[i]?) = (bsC ++ bsR).map some) (hX : ∀ u, (bsX u).flatten = wo u) (h3 : is'.Perm (List.range is'.length)) (hl3 : ∀ u : σ, ((bsX u) ++ bsR).length = is'.length) (h4 : ∀ u : σ, is'.map (fun i => ((bsX u) ++ bsR)[i]?) = (Bs' u).map some)
    (hst : st0 = As.reverse ++ .ref b :: rest) (hn : As.length = n) (hsz : ls.size = nL) (hW : (rest.map fun v => v.category).sum ≤ 8) (hdg : decode cc pc = .ok (.invokevirtual index, 3)) (hf : cells + mc ≤ R.cells ∧ slots + ms ≤ R.slots)
    (kk : ∀ (u : σ) (H1 : Heap) (locs1 : List Loc), va_P D vwCl (Bs' u).flatten H1 → va_D A (Bs' u).flatten → va_S A H0 H1 locs1 → W p l e R s m args below meth c H1 locs1 (cells + mc) (slots + ms) Q (F0 m (pc + 3) ls (.int v :: rest))) : W p l e R s m args below meth c H locs cells slots Q (F0 m pc ls st0) := by
  subst hC
  have pm := fl_perm (perm_idx is h1 hl1 h2)
  rw [List.flatten_append] at pm
  have hP := va_P_p hP pm
  have hD := va_D_pm hD pm
  have hrg := va_rg bsC.flatten
  have hPX : va_P D vwCl bsC.flatten H := va_P_pm hP (fun _ hq => List.mem_append_left _ hq)
  have hDX := va_Dl hD
  have hFc := va_free (wc := bsC.flatten) hDX hS hA _ hrg
  refine va_calli (va_runV (As := As) (rest := rest) (b := b) (g := F0 m pc ls st0) S hM cw ⟨pW_blind, hr, pW_at hPX hDX hK hN⟩ rfl hn hsz hst (lv_room (m := m) (pc := pc) (ls := ls) (rest := st0) hW) hdg hf) hS (fun q _ h => hFc q h) hFc (fun r u t H1 locs1 ht hvm hw hB hz1 hk1 hS1 => ?_)
  obtain rfl := hw
  obtain ⟨hP1, hD1⟩ := hB
  rw [ht] at hP1
  obtain ⟨g1, g2⟩ := va_joinQ (wr := []) hP hD _ [] hrg rfl rfl (fun _ h => absurd h List.not_mem_nil) hk1 hFc hP1 hD1
  rw [List.nil_append, ← hX u, ← List.flatten_append] at g1 g2
  have pm2 := fl_perm (perm_idx is' h3 (hl3 u) (h4 u))
  exact kk u H1 locs1 (va_P_p g1 pm2) (va_D_pm g2 pm2) hS1
/-- an int of the script onto the stack -/
theorem lw_arg {b L : Nat} {xs : Nat → Int32} {A : Nat → Prop} {H0 : Heap} (hx : p.tables.exec = Jvm.exec) (hb : c.code = code) (hX : va_X b L xs s H0) (hbl : b < H0.size) (hbA : ¬ A b) (hS : va_S A H0 H locs) {i k : Nat} (hL : L ≤ 3072) (h0 : ls[0]? = some (.val (.ref b))) (h3 : ls[3]? = some (.val (.int (nI i)))) (hik : i + k < L) {n : Int} (hn : Int32.ofInt n = nI k) (d0 : decode code pc = .ok (.aload_n 0, 1)) (d1 : decode code (pc + 1) = .ok (.iload_n 3, 1)) (d2 : decode code (pc + 1 + 1) = .ok (.iconst n, 1)) (d3 : decode code (pc + 1 + 1 + 1) = .ok (.iadd, 1)) (d4 : decode code (pc + 1 + 1 + 1 + 1) = .ok (.iaload, 1))
    (kk : W p l e R s m args below meth c H locs cells slots Q (F0 m (pc + 1 + 1 + 1 + 1 + 1) ls (.int (xs (i + k)) :: rest))) : W p l e R s m args below meth c H locs cells slots Q (F0 m pc ls rest) := by
  refine lv_aload_n hx hb d0 rfl h0 ?_
  refine lv_iload_n hx hb d1 rfl h3 ?_
  refine lv_iconst (v := nI k) hx hb d2 hn ?_
  refine lv_iadd hx hb d3 ?_
  rw [nI_add]
  refine va_sld hx hb hX hbl hbA hS (vp_in_nI hik (by omega)) d4 ?_
  rw [nI_clamp (by omega)]
  exact kk
/-- an int as a truth value -/
def bz (v : Int32) : Int32 := if v = 0 then 0 else 1
theorem lw_bool (hx : p.tables.exec = Jvm.exec) (hb : c.code = code) {v : Int32} (d0 : decode code pc = .ok (.ifCond .eq 7, 3)) (d1 : decode code (pc + 3) = .ok (.iconst 1, 1)) (d2 : decode code (pc + 3 + 1) = .ok (.goto 4, 3)) (d3 : decode code (pc + 7) = .ok (.iconst 0, 1))
    (kk : W p l e R s m args below meth c H locs cells slots Q (F0 m (pc + 7 + 1) ls (.int (bz v) :: rest))) : W p l e R s m args below meth c H locs cells slots Q (F0 m pc ls (.int v :: rest)) := by
  refine lv_if_eq (tgt := pc + 7) hx hb d0 (by omega) (fun z => ?_) (fun z => ?_)
  · refine lv_iconst (v := 0) hx hb d3 (by decide) ?_
    have : bz v = 0 := if_pos z
    rw [this] at kk
    exact kk
  · refine lv_iconst (v := 1) hx hb d1 (by decide) ?_
    refine lv_goto (tgt := pc + 7 + 1) hx hb d2 (by omega) ?_
    have : bz v = 1 := if_neg z
    rw [this] at kk
    exact kk
theorem lw_same (hx : p.tables.exec = Jvm.exec) (hb : c.code = code) {v w : Int32} (ev : v = w) {off : Int} (d : decode code pc = .ok (.if_icmp .eq off, 3)) (ht : (pc : Int) + off = ((894 : Nat) : Int)) (kk : W p l e R s m args below meth c H locs cells slots Q (F0 m 894 ls rest)) : W p l e R s m args below meth c H locs cells slots Q (F0 m pc ls (.int w :: .int v :: rest)) :=
  lv_icmp_eq (tgt := 894) hx hb d ht (fun _ => kk) (fun z => absurd ev z)
theorem lw_sameL (hx : p.tables.exec = Jvm.exec) (hb : c.code = code) {v w : Int64} (ev : v = w) {off : Int} (d0 : decode code pc = .ok (.lcmp, 1)) (d : decode code (pc + 1) = .ok (.ifCond .eq off, 3)) (ht : ((pc + 1 : Nat) : Int) + off = ((894 : Nat) : Int)) (kk : W p l e R s m args below meth c H locs cells slots Q (F0 m 894 ls rest)) : W p l e R s m args below meth c H locs cells slots Q (F0 m pc ls (.long w :: .long v :: rest)) := by
  refine W.lcmp hx hb d0 ?_
  exact lv_if_eq (tgt := 894) hx hb d ht (fun _ => kk) (fun z => absurd ((lg_cmp_eq _ _).mpr ev) z)
end LWB
-- the law's world
abbrev xV : Type := Nat → Option (Nat × (Nat → Nat) × OV)
/-- a kept image's cells -/
def pk (cI : ClassId) (x : Option (Nat × (Nat → Nat) × OV)) : va_W := match x with
  | none => []
  | some y => wX0 cI y.1 y.2.1 y.2.2
abbrev wB (cI cZ cC : ClassId) (hq hc hu hi hg hy hw hm hd : Nat) (ac au ag ay aw am ad : Nat → Nat) (f : Nat → Option Nat) (oc ou og oy ow om od : OV) (x : xV) : List va_W := [wX4 hq hc hu hi hg hy hw, wX0 cI hc ac oc, wX0 cI hu au ou, wXi cC hi f, wX2 cI hg ag og, wX1 cI hd hy ay oy ++ wX0 cI hd ad od, wX3 cI hw aw ow, wX5 cI cZ hm am om, pk cI (x 0), pk cI (x 1)]
/-- the kept images: the class's and the reference's -/
def rQ (x : xV) (g : Nat → Option KV) (f : Nat → Option Nat) : Prop := ∀ i, i < 2 → f i = (x i).map (fun y => y.1) ∧ (x i = none → g i = none) ∧ ∀ y, x i = some y → ∃ K, g i = some K ∧ rC K y.2.2
/-- class and reference hold the same -/
def vI (oc og om : OV) (f : Nat → Option Nat) (x : xV) : Prop := ∃ (K : KV) (g : Nat → Option KV), RK K oc om ∧ rP og om ∧ rI g om ∧ rQ x g f
theorem cok_rM {K : KV} {om : OV} (hK : kok K) (hM : rM K om) : cok5 om := ⟨fun j hj => ⟨K.2 9 j, hK.2.2.1 j hj, hM.2.2 j hj⟩, kw K 10, by have := hK.2.2.2; omega, kw_le hK 10 (Nat.le_refl _), M_weights hM⟩
theorem h6_rM {K : KV} {om : OV} (hK : kok K) (hM : rM K om) : ∃ b : Nat, b < 64 ∧ om.1 0 = nI b := ⟨K.1 2, hK.1.2.2.1, hM.1.1⟩
theorem hs_rM {K : KV} {om : OV} (hK : kok K) (hM : rM K om) : (om.1 11).toNatClampNeg ≤ 6 ∧ om.1 11 = nI (om.1 11).toNatClampNeg := by
  have h := hM.1.2.2.2.2.2
  have h2 := hK.1.2.2.2.2.2.2
  have e : (om.1 11).toNatClampNeg = K.1 6 := by rw [h, nI_clamp (by omega)]
  exact ⟨by rw [e]; exact h2, by rw [e]; exact h⟩
theorem vI_frm {K : KV} {oc' og om om' : OV} {f : Nat → Option Nat} {x : xV} {g : Nat → Option KV} (hR : RK K oc' om') (hp : rP og om) (hI : rI g om) (hQ : rQ x g f) (hf : frm om om') : vI oc' og om' f x := ⟨K, g, hR, rP_frm hp hf, rI_frm hI hf, hQ⟩
theorem rI_frp {g : Nat → Option KV} {om om' : OV} (h : rI g om) (hf : frp om om') : rI g om' := by
  intro i hi
  have q := h i hi
  unfold kI at q ⊢
  rw [hf.2 20 (by decide), hf.2 21 (by decide)]
  exact q
theorem vI_frp {K : KV} {oc og' om om' : OV} {f : Nat → Option Nat} {x : xV} {g : Nat → Option KV} (hR : RK K oc om) (hp : rP og' om') (hI : rI g om) (hQ : rQ x g f) (hf : frp om om') : vI oc og' om' f x := ⟨K, g, ⟨hR.1, hR.2.1, rM_frp hR.2.2 hf⟩, hp, rI_frp hI hf, hQ⟩
