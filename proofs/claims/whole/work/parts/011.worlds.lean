/-! WORLDS: the cells of the objects, by what they hold -/
abbrev tyv (cI cZ cC : ClassId) : List (ClassId × FieldType) := [(cI, .int), (cZ, .boolean), (cC, .object RX0)]
abbrev wX0 (cI : ClassId) (h : Nat) (a : Nat → Nat) (o : OV) : va_W := [(h, .inr (0, [.int (o.1 0), .int (o.1 1), .int (o.1 2), .int (o.1 3), .int (o.1 4), .int (o.1 5), .int (o.1 6), .ref (a 7), .ref (a 8), .ref (a 9), .ref (a 10), .ref (a 11)])), (a 7, .inl (cI, 6, .inl (o.2 7))), (a 8, .inl (cI, 6, .inl (o.2 8))), (a 9, .inl (cI, 10, .inl (o.2 9))), (a 10, .inl (cI, 6, .inl (o.2 10))), (a 11, .inl (cI, 6, .inl (o.2 11)))]
abbrev wX1 (cI : ClassId) (hc h : Nat) (a : Nat → Nat) (o : OV) : va_W := [(h, .inr (1, [.ref hc, .ref (a 1), .int (o.1 2), .int (o.1 3)])), (a 1, .inl (cI, 9, .inl (o.2 1)))]
abbrev wX2 (cI : ClassId) (h : Nat) (a : Nat → Nat) (o : OV) : va_W := [(h, .inr (2, [.ref (a 0), .int (o.1 1)])), (a 0, .inl (cI, 40, .inl (o.2 0)))]
abbrev wX3 (cI : ClassId) (h : Nat) (a : Nat → Nat) (o : OV) : va_W := [(h, .inr (3, [.int (o.1 0), .ref (a 1), .ref (a 2), .ref (a 3), .ref (a 4)])), (a 1, .inl (cI, 10, .inl (o.2 1))), (a 2, .inl (cI, 300, .inl (o.2 2))), (a 3, .inl (cI, 3000, .inl (o.2 3))), (a 4, .inl (cI, 300, .inl (o.2 4)))]
abbrev wX5 (cI cZ : ClassId) (h : Nat) (a : Nat → Nat) (o : OV) : va_W := [(h, .inr (5, [.int (o.1 0), .ref (a 1), .ref (a 2), .ref (a 3), .int (o.1 4), .int (o.1 5), .int (o.1 6), .int (o.1 7), .ref (a 8), .ref (a 9), .ref (a 10), .int (o.1 11), .ref (a 12), .int (o.1 13), .ref (a 14), .int (o.1 15), .int (o.1 16), .int (o.1 17), .int (o.1 18), .ref (a 19), .ref (a 20), .ref (a 21), .int (o.1 22), .int (o.1 23)])), (a 1, .inl (cI, 6, .inl (o.2 1))), (a 2, .inl (cI, 6, .inl (o.2 2))), (a 3, .inl (cI, 6, .inl (o.2 3))), (a 8, .inl (cI, 10, .inl (o.2 8))), (a 9, .inl (cI, 6, .inl (o.2 9))), (a 10, .inl (cI, 6, .inl (o.2 10))), (a 12, .inl (cI, 40, .inl (o.2 12))), (a 14, .inl (cI, 9, .inl (o.2 14))), (a 19, .inl (cI, 6, .inl (o.2 19))), (a 20, .inl (cI, 160, .inl (o.2 20))), (a 21, .inl (cZ, 2, .inl (o.2 21)))]
abbrev wX4 (hq hc hu hi hg hy hw : Nat) : va_W := [(hq, .inr (4, [.ref hc, .ref hu, .ref hi, .ref hg, .ref hy, .ref hw]))]
abbrev wXi (cC : ClassId) (h : Nat) (f : Nat → Option Nat) : va_W := [(h, .inl (cC, 2, .inr (.inr (.inr (.inr f)))))]
abbrev wAr (cI : ClassId) (h n : Nat) (f : Nat → Int32) : va_W := [(h, .inl (cI, n, .inl f))]
theorem ty_cI {D : va_G} {cI cZ cC cA : ClassId} {s : State} (h : va_K D vwCl (tyv cI cZ cC ++ [(cA, .int)]) s) : cA = cI := by
  have h1 := (h.2 0 (cI, .int) rfl).2
  have h2 := (h.2 3 (cA, .int) rfl).2
  exact Option.some.inj (h2.symm.trans h1)
theorem ty_cZ {D : va_G} {cI cZ cC cA : ClassId} {s : State} (h : va_K D vwCl (tyv cI cZ cC ++ [(cA, .boolean)]) s) : cA = cZ := by
  have h1 := (h.2 1 (cZ, .boolean) rfl).2
  have h2 := (h.2 3 (cA, .boolean) rfl).2
  exact Option.some.inj (h2.symm.trans h1)
theorem ty_cC {D : va_G} {cI cZ cC cA : ClassId} {s : State} (h : va_K D vwCl (tyv cI cZ cC ++ [(cA, .object RX0)]) s) : cA = cC := by
  obtain ⟨_, _, _, _, _, h1⟩ := (h.2 2 (cC, .object RX0) rfl).2
  obtain ⟨_, _, _, _, _, h2⟩ := (h.2 3 (cA, .object RX0) rfl).2
  exact Option.some.inj (h2.symm.trans h1)
section UVN
variable {p : Program} {l : Launch} {e : Env} {R : Room} {s : State} {m : MethodId} {args : Array Value} {below : List Frame} {meth : Method} {c : Code} {H : Heap} {locs : List Loc} {cells slots : Nat} {Q : State → Prop}
variable {cc : ByteArray} {pc : Nat} {ls : Array Slot} {rest : List Value} {D : va_G} {A : Nat → Prop} {cI cZ cC : ClassId} {ws : va_W} {H0 : Heap}
theorem uv_newi (hx : p.tables.exec = Jvm.exec) (hb : c.code = cc) (harr : (Cond.arrayClass .int).before args s = true) (hK : va_K D vwCl (tyv cI cZ cC) s) (hP : va_P D vwCl ws H) (hD : va_D A ws) (hS : va_S A H0 H locs) (hA : ∀ q, H0.size ≤ q → A q) {n : Int32} {N : Nat} (hn : ¬ n < 0) (hN : n.toNatClampNeg = N) (hbytes : N * 4 ≤ 536870912) (hcells : cells + 1 ≤ R.cells) (hslots : slots + N ≤ R.slots) (hdg : decode cc pc = .ok (.newarray .int, 2))
    (kk : ∀ (q : Nat) (H1 : Heap), va_P D vwCl (ws ++ [(q, .inl (cI, N, .inl (fun _ => 0)))]) H1 → va_D A (ws ++ [(q, .inl (cI, N, .inl (fun _ => 0)))]) → va_S A H0 H1 locs → W p l e R s m args below meth c H1 locs (cells + 1) (slots + N) Q (F0 m (pc + 2) ls (.ref q :: rest))) : W p l e R s m args below meth c H locs cells slots Q (F0 m pc ls (.int n :: rest)) := by
  refine va_newa (atype := .int) (ty := .int) (a0 := (N, .inl (fun _ => 0))) hx hb harr rfl hK hP hD hS hA (fun _ => rfl) hn hN hbytes hcells hslots hdg (fun q cA H1 hK1 hP1 hD1 hS1 => ?_)
  obtain rfl := ty_cI hK1
  exact kk q H1 hP1 hD1 hS1
theorem uv_newz (hx : p.tables.exec = Jvm.exec) (hb : c.code = cc) (harr : (Cond.arrayClass .boolean).before args s = true) (hK : va_K D vwCl (tyv cI cZ cC) s) (hP : va_P D vwCl ws H) (hD : va_D A ws) (hS : va_S A H0 H locs) (hA : ∀ q, H0.size ≤ q → A q) {n : Int32} {N : Nat} (hn : ¬ n < 0) (hN : n.toNatClampNeg = N) (hbytes : N * 1 ≤ 536870912) (hcells : cells + 1 ≤ R.cells) (hslots : slots + N ≤ R.slots) (hdg : decode cc pc = .ok (.newarray .boolean, 2))
    (kk : ∀ (q : Nat) (H1 : Heap), va_P D vwCl (ws ++ [(q, .inl (cZ, N, .inl (fun _ => 0)))]) H1 → va_D A (ws ++ [(q, .inl (cZ, N, .inl (fun _ => 0)))]) → va_S A H0 H1 locs → W p l e R s m args below meth c H1 locs (cells + 1) (slots + N) Q (F0 m (pc + 2) ls (.ref q :: rest))) : W p l e R s m args below meth c H locs cells slots Q (F0 m pc ls (.int n :: rest)) := by
  refine va_newa (atype := .boolean) (ty := .boolean) (a0 := (N, .inl (fun _ => 0))) hx hb harr rfl hK hP hD hS hA (fun _ => rfl) hn hN hbytes hcells hslots hdg (fun q cA H1 hK1 hP1 hD1 hS1 => ?_)
  obtain rfl := ty_cZ hK1
  exact kk q H1 hP1 hD1 hS1
theorem uv_newq {own : String} {index : Nat} (hx : p.tables.exec = Jvm.exec) (hb : c.code = cc) (hown : s.vm.findClass own = some m.cls) (hcl : (Cond.classLink own index RX0).before args s = true) (hO : va_AO RX0 s) (hK : va_K D vwCl (tyv cI cZ cC) s) (hP : va_P D vwCl ws H) (hD : va_D A ws) (hS : va_S A H0 H locs) (hA : ∀ q, H0.size ≤ q → A q) {n : Int32} {N : Nat} (hn : ¬ n < 0) (hN : n.toNatClampNeg = N) (hbytes : N * 4 ≤ 536870912) (hcells : cells + 1 ≤ R.cells) (hslots : slots + N ≤ R.slots) (hdg : decode cc pc = .ok (.anewarray index, 3))
    (kk : ∀ (q : Nat) (H1 : Heap), va_P D vwCl (ws ++ [(q, .inl (cC, N, .inr (.inr (.inr (.inr (fun _ => none))))))]) H1 → va_D A (ws ++ [(q, .inl (cC, N, .inr (.inr (.inr (.inr (fun _ => none))))))]) → va_S A H0 H1 locs → W p l e R s m args below meth c H1 locs (cells + 1) (slots + N) Q (F0 m (pc + 3) ls (.ref q :: rest))) : W p l e R s m args below meth c H locs cells slots Q (F0 m pc ls (.int n :: rest)) := by
  refine va_newq hx hb hown hcl hO hK hP hD hS hA hn hN hbytes hcells hslots hdg (fun q cA H1 hK1 hP1 hD1 hS1 => ?_)
  obtain rfl := ty_cC hK1
  exact kk q H1 hP1 hD1 hS1
end UVN
