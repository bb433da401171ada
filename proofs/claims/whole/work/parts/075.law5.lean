/-! THE LAW, 5: the pool of kept images -/
theorem pool_out {cI : ClassId} {b0 b1 b2 b3 b4 b5 b6 b7 : va_W} {x : xV} {n : Nat} (hn : n < 2) : List.Perm [b0, b1, b2, b3, b4, b5, b6, b7, pk cI (x 0), pk cI (x 1)] [b0, b1, b2, b3, b4, b5, b6, b7, pk cI (x n), pk cI (x (1 - n))] := by
  have : n = 0 ∨ n = 1 := by omega
  rcases this with rfl | rfl
  · exact List.Perm.refl _
  · exact perm_idx [0, 1, 2, 3, 4, 5, 6, 7, 9, 8] (by decide) rfl rfl
theorem pool_in {cI : ClassId} {b0 b1 b2 b3 b4 b5 b6 b7 : va_W} {x : xV} {n : Nat} (hn : n < 2) {y : Option (Nat × (Nat → Nat) × OV)} : List.Perm [b0, b1, b2, b3, b4, b5, b6, b7, pk cI y, pk cI (x (1 - n))] [b0, b1, b2, b3, b4, b5, b6, b7, pk cI ((fun j => if j = n then y else x j : xV) 0), pk cI ((fun j => if j = n then y else x j : xV) 1)] := by
  have : n = 0 ∨ n = 1 := by omega
  rcases this with rfl | rfl
  · exact List.Perm.refl _
  · exact perm_idx [0, 1, 2, 3, 4, 5, 6, 7, 9, 8] (by decide) rfl rfl
theorem rP_eq {og om om' : OV} (h : rP og om) (h1 : om'.1 13 = om.1 13) (h2 : om'.2 12 = om.2 12) : rP og om' := by
  obtain ⟨c, a, b, d, e⟩ := h
  exact ⟨c, a, b, h1.trans d, fun j hj => by rw [h2]; exact e j hj⟩
theorem rQ_set {x : xV} {g : Nat → Option KV} {f f' : Nat → Option Nat} {n : Nat} {K : KV} {y : Nat × (Nat → Nat) × OV} (h : rQ x g f) (hC : rC K y.2.2) (h1 : f' n = some y.1) (h2 : ∀ j, j ≠ n → f' j = f j) : rQ (fun j => if j = n then some y else x j) (fun j => if j = n then some K else g j) f' := by
  intro i hi
  obtain ⟨a, b, d⟩ := h i hi
  dsimp only
  by_cases e : i = n
  · subst e
    rw [if_pos rfl, if_pos rfl]
    refine ⟨h1, fun w => absurd w (by simp), fun z w => ?_⟩
    have ez : y = z := Option.some.inj w
    subst ez
    exact ⟨K, rfl, hC⟩
  · rw [if_neg e, if_neg e, h2 i e]
    exact ⟨a, b, d⟩
theorem rQ_id {x : xV} {g : Nat → Option KV} {f : Nat → Option Nat} {n : Nat} {y : Nat × (Nat → Nat) × OV} (h : rQ x g f) (hx : x n = some y) : rQ (fun j => if j = n then some y else x j) g f := by
  have e : (fun j => if j = n then some y else x j : xV) = x := funext fun j => by
    by_cases e : j = n
    · rw [if_pos e, e, hx]
    · rw [if_neg e]
  rw [e]
  exact h
