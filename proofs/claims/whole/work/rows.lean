section
-- ===== PART A: goes FIRST, ahead of the names: the tables' words, and 'selects' of the private methods out of them =====
/-- a private method of a class that the tables say can be made, by its rows of tables_1 -/
def lw_okq (q : MethodName × Nat) : Prop := (q.1.cls ≠ "java/lang/invoke/MethodHandle" ∧ q.1.cls ≠ "java/lang/invoke/VarHandle") ∧ Cond.instantiable q.1.cls q.2 ∈ tables_1 ∧ Cond.privateMethod q.1 ∈ tables_1 ∧ Cond.instanceMethod q.1 ∈ tables_1
theorem lw_p0 : lw_okq (⟨"UmbrellaVote", "bestPlace", "(I)I"⟩, 6) := ⟨⟨by decide +kernel, by decide +kernel⟩, List.mem_of_getElem? (i := 12) (by decide +kernel), List.mem_of_getElem? (i := 381) (by decide +kernel), List.mem_of_getElem? (i := 382) (by decide +kernel)⟩
theorem lw_p1 : lw_okq (⟨"UmbrellaVote", "trialShare", "(III)I"⟩, 6) := ⟨⟨by decide +kernel, by decide +kernel⟩, List.mem_of_getElem? (i := 12) (by decide +kernel), List.mem_of_getElem? (i := 385) (by decide +kernel), List.mem_of_getElem? (i := 386) (by decide +kernel)⟩
theorem lw_p2 : lw_okq (⟨"UmbrellaVote", "toldOfPerson", "(II)I"⟩, 6) := ⟨⟨by decide +kernel, by decide +kernel⟩, List.mem_of_getElem? (i := 12) (by decide +kernel), List.mem_of_getElem? (i := 499) (by decide +kernel), List.mem_of_getElem? (i := 500) (by decide +kernel)⟩
theorem lw_p3 : lw_okq (⟨"UmbrellaVoteModel", "isThere", "(I)Z"⟩, 24) := ⟨⟨by decide +kernel, by decide +kernel⟩, List.mem_of_getElem? (i := 503) (by decide +kernel), List.mem_of_getElem? (i := 605) (by decide +kernel), List.mem_of_getElem? (i := 606) (by decide +kernel)⟩
theorem lw_p4 : lw_okq (⟨"UmbrellaVoteModel", "firstAt", "(I)I"⟩, 24) := ⟨⟨by decide +kernel, by decide +kernel⟩, List.mem_of_getElem? (i := 503) (by decide +kernel), List.mem_of_getElem? (i := 645) (by decide +kernel), List.mem_of_getElem? (i := 646) (by decide +kernel)⟩
theorem lw_p5 : lw_okq (⟨"UmbrellaVoteModel", "opensAt", "(II)I"⟩, 24) := ⟨⟨by decide +kernel, by decide +kernel⟩, List.mem_of_getElem? (i := 503) (by decide +kernel), List.mem_of_getElem? (i := 649) (by decide +kernel), List.mem_of_getElem? (i := 650) (by decide +kernel)⟩
theorem lw_p6 : lw_okq (⟨"UmbrellaVoteModel", "rulersBy", "(I)I"⟩, 24) := ⟨⟨by decide +kernel, by decide +kernel⟩, List.mem_of_getElem? (i := 503) (by decide +kernel), List.mem_of_getElem? (i := 653) (by decide +kernel), List.mem_of_getElem? (i := 654) (by decide +kernel)⟩
theorem lw_p7 : lw_okq (⟨"UmbrellaVoteModel", "goParts", "(I)I"⟩, 24) := ⟨⟨by decide +kernel, by decide +kernel⟩, List.mem_of_getElem? (i := 503) (by decide +kernel), List.mem_of_getElem? (i := 670) (by decide +kernel), List.mem_of_getElem? (i := 671) (by decide +kernel)⟩
theorem lw_p8 : lw_okq (⟨"UmbrellaVoteModel", "happen", "(II)V"⟩, 24) := ⟨⟨by decide +kernel, by decide +kernel⟩, List.mem_of_getElem? (i := 503) (by decide +kernel), List.mem_of_getElem? (i := 674) (by decide +kernel), List.mem_of_getElem? (i := 675) (by decide +kernel)⟩
theorem lw_p9 : lw_okq (⟨"UmbrellaVoteModel", "goYears", "(I)V"⟩, 24) := ⟨⟨by decide +kernel, by decide +kernel⟩, List.mem_of_getElem? (i := 503) (by decide +kernel), List.mem_of_getElem? (i := 678) (by decide +kernel), List.mem_of_getElem? (i := 679) (by decide +kernel)⟩
theorem lw_p10 : lw_okq (⟨"UmbrellaVoteModel", "rule", "(I)V"⟩, 24) := ⟨⟨by decide +kernel, by decide +kernel⟩, List.mem_of_getElem? (i := 503) (by decide +kernel), List.mem_of_getElem? (i := 682) (by decide +kernel), List.mem_of_getElem? (i := 683) (by decide +kernel)⟩
theorem lw_p11 : lw_okq (⟨"UmbrellaVoteModel", "sprinkledBy", "(I)I"⟩, 24) := ⟨⟨by decide +kernel, by decide +kernel⟩, List.mem_of_getElem? (i := 503) (by decide +kernel), List.mem_of_getElem? (i := 686) (by decide +kernel), List.mem_of_getElem? (i := 687) (by decide +kernel)⟩
theorem lw_p12 : lw_okq (⟨"UmbrellaVoteModel", "weights", "()I"⟩, 24) := ⟨⟨by decide +kernel, by decide +kernel⟩, List.mem_of_getElem? (i := 503) (by decide +kernel), List.mem_of_getElem? (i := 699) (by decide +kernel), List.mem_of_getElem? (i := 700) (by decide +kernel)⟩
theorem lw_p13 : lw_okq (⟨"UmbrellaVoteModel", "sixtieths", "(I)I"⟩, 24) := ⟨⟨by decide +kernel, by decide +kernel⟩, List.mem_of_getElem? (i := 503) (by decide +kernel), List.mem_of_getElem? (i := 710) (by decide +kernel), List.mem_of_getElem? (i := 711) (by decide +kernel)⟩
theorem lw_p14 : lw_okq (⟨"UmbrellaVoteModel", "findStand", "(I)V"⟩, 24) := ⟨⟨by decide +kernel, by decide +kernel⟩, List.mem_of_getElem? (i := 503) (by decide +kernel), List.mem_of_getElem? (i := 722) (by decide +kernel), List.mem_of_getElem? (i := 723) (by decide +kernel)⟩
theorem lw_p15 : lw_okq (⟨"UmbrellaVoteModel", "keepPlaces", "()V"⟩, 24) := ⟨⟨by decide +kernel, by decide +kernel⟩, List.mem_of_getElem? (i := 503) (by decide +kernel), List.mem_of_getElem? (i := 734) (by decide +kernel), List.mem_of_getElem? (i := 735) (by decide +kernel)⟩
def lw_privs_1 : List (MethodName × Nat) := [(⟨"UmbrellaVote", "bestPlace", "(I)I"⟩, 6), (⟨"UmbrellaVote", "trialShare", "(III)I"⟩, 6), (⟨"UmbrellaVote", "toldOfPerson", "(II)I"⟩, 6), (⟨"UmbrellaVoteModel", "isThere", "(I)Z"⟩, 24), (⟨"UmbrellaVoteModel", "firstAt", "(I)I"⟩, 24), (⟨"UmbrellaVoteModel", "opensAt", "(II)I"⟩, 24), (⟨"UmbrellaVoteModel", "rulersBy", "(I)I"⟩, 24), (⟨"UmbrellaVoteModel", "goParts", "(I)I"⟩, 24), (⟨"UmbrellaVoteModel", "happen", "(II)V"⟩, 24), (⟨"UmbrellaVoteModel", "goYears", "(I)V"⟩, 24), (⟨"UmbrellaVoteModel", "rule", "(I)V"⟩, 24), (⟨"UmbrellaVoteModel", "sprinkledBy", "(I)I"⟩, 24), (⟨"UmbrellaVoteModel", "weights", "()I"⟩, 24), (⟨"UmbrellaVoteModel", "sixtieths", "(I)I"⟩, 24), (⟨"UmbrellaVoteModel", "findStand", "(I)V"⟩, 24), (⟨"UmbrellaVoteModel", "keepPlaces", "()V"⟩, 24)]
theorem lw_r1 : ∀ q ∈ lw_privs_1, lw_okq q := List.forall_mem_cons.mpr ⟨lw_p0, List.forall_mem_cons.mpr ⟨lw_p1, List.forall_mem_cons.mpr ⟨lw_p2, List.forall_mem_cons.mpr ⟨lw_p3, List.forall_mem_cons.mpr ⟨lw_p4, List.forall_mem_cons.mpr ⟨lw_p5, List.forall_mem_cons.mpr ⟨lw_p6, List.forall_mem_cons.mpr ⟨lw_p7, List.forall_mem_cons.mpr ⟨lw_p8, List.forall_mem_cons.mpr ⟨lw_p9, List.forall_mem_cons.mpr ⟨lw_p10, List.forall_mem_cons.mpr ⟨lw_p11, List.forall_mem_cons.mpr ⟨lw_p12, List.forall_mem_cons.mpr ⟨lw_p13, List.forall_mem_cons.mpr ⟨lw_p14, List.forall_mem_cons.mpr ⟨lw_p15, fun _ h => absurd h List.not_mem_nil⟩⟩⟩⟩⟩⟩⟩⟩⟩⟩⟩⟩⟩⟩⟩⟩
theorem lw_p16 : lw_okq (⟨"UmbrellaVoteModel", "layPlaces", "(I)V"⟩, 24) := ⟨⟨by decide +kernel, by decide +kernel⟩, List.mem_of_getElem? (i := 503) (by decide +kernel), List.mem_of_getElem? (i := 738) (by decide +kernel), List.mem_of_getElem? (i := 739) (by decide +kernel)⟩
theorem lw_p17 : lw_okq (⟨"UmbrellaVoteModel", "areAtRest", "()Z"⟩, 24) := ⟨⟨by decide +kernel, by decide +kernel⟩, List.mem_of_getElem? (i := 503) (by decide +kernel), List.mem_of_getElem? (i := 742) (by decide +kernel), List.mem_of_getElem? (i := 743) (by decide +kernel)⟩
theorem lw_p18 : lw_okq (⟨"UmbrellaVoteModel", "putPlaces", "()V"⟩, 24) := ⟨⟨by decide +kernel, by decide +kernel⟩, List.mem_of_getElem? (i := 503) (by decide +kernel), List.mem_of_getElem? (i := 746) (by decide +kernel), List.mem_of_getElem? (i := 747) (by decide +kernel)⟩
theorem lw_p19 : lw_okq (⟨"UmbrellaVoteModel", "holds", "(II)Z"⟩, 24) := ⟨⟨by decide +kernel, by decide +kernel⟩, List.mem_of_getElem? (i := 503) (by decide +kernel), List.mem_of_getElem? (i := 773) (by decide +kernel), List.mem_of_getElem? (i := 774) (by decide +kernel)⟩
theorem lw_p20 : lw_okq (⟨"UmbrellaVoteModel", "passAll", "()V"⟩, 24) := ⟨⟨by decide +kernel, by decide +kernel⟩, List.mem_of_getElem? (i := 503) (by decide +kernel), List.mem_of_getElem? (i := 790) (by decide +kernel), List.mem_of_getElem? (i := 791) (by decide +kernel)⟩
theorem lw_p21 : lw_okq (⟨"UmbrellaVoteModel", "carry", "(I)I"⟩, 24) := ⟨⟨by decide +kernel, by decide +kernel⟩, List.mem_of_getElem? (i := 503) (by decide +kernel), List.mem_of_getElem? (i := 794) (by decide +kernel), List.mem_of_getElem? (i := 795) (by decide +kernel)⟩
def lw_privs_2 : List (MethodName × Nat) := [(⟨"UmbrellaVoteModel", "layPlaces", "(I)V"⟩, 24), (⟨"UmbrellaVoteModel", "areAtRest", "()Z"⟩, 24), (⟨"UmbrellaVoteModel", "putPlaces", "()V"⟩, 24), (⟨"UmbrellaVoteModel", "holds", "(II)Z"⟩, 24), (⟨"UmbrellaVoteModel", "passAll", "()V"⟩, 24), (⟨"UmbrellaVoteModel", "carry", "(I)I"⟩, 24)]
theorem lw_r2 : ∀ q ∈ lw_privs_2, lw_okq q := List.forall_mem_cons.mpr ⟨lw_p16, List.forall_mem_cons.mpr ⟨lw_p17, List.forall_mem_cons.mpr ⟨lw_p18, List.forall_mem_cons.mpr ⟨lw_p19, List.forall_mem_cons.mpr ⟨lw_p20, List.forall_mem_cons.mpr ⟨lw_p21, fun _ h => absurd h List.not_mem_nil⟩⟩⟩⟩⟩⟩
def lw_privs : List (MethodName × Nat) := lw_privs_1 ++ (lw_privs_2)
def lw_tbl : List Cond := k2_sels lw_privs ++ tables_1
theorem lw_privs_ok : ∀ q ∈ lw_privs, lw_okq q := by
  show ∀ q ∈ lw_privs_1 ++ (lw_privs_2), lw_okq q
  exact List.forall_mem_append.mpr ⟨lw_r1, lw_r2⟩
-- ===== end of PART A; then your names; then what follows =====
end
section
/-! ===== BEGIN words of one list among another's, by their places ===== -/
theorem goodIn_r {big : List Cond} (ws : List Cond) (ps : List Nat) (hp : ws = ps.filterMap (fun i => big[i]?)) (h : ws.all goodWord = true) : GoodIn big ws := by
  intro w hw
  have h1 := List.all_eq_true.mp h w hw
  rw [hp] at hw
  obtain ⟨i, -, hi⟩ := List.mem_filterMap.mp hw
  have hm : w ∈ big := by first | exact List.mem_of_getElem? hi | exact List.getElem?_mem hi
  exact ⟨hm, good_of_word h1⟩
theorem goodIn_app {big a b : List Cond} (ha : GoodIn big a) (hb : GoodIn big b) : GoodIn big (a ++ b) := fun w h => (List.mem_append.mp h).elim (ha w) (hb w)
theorem goodIn_ca {big a b : List Cond} {c : Cond} (ha : GoodIn big (c :: a)) (hb : GoodIn big b) : GoodIn big (c :: (a ++ b)) := fun w h => (List.mem_cons.mp h).elim (fun e => ha w (List.mem_cons.mpr (Or.inl e))) (fun h => (List.mem_append.mp h).elim (fun h => ha w (List.mem_cons.mpr (Or.inr h))) (hb w))
theorem goodIn_sub {big ws : List Cond} (hm : ∀ w ∈ ws, w ∈ big) (h : ws.all goodWord = true) : GoodIn big ws := fun w hw => ⟨hm w hw, good_of_word (List.all_eq_true.mp h w hw)⟩
/-! ===== END ===== -/

/-! ===== BEGIN printed: names, fields, word lists, decode rows ===== -/
def RX0 : String := "UmbrellaVote$City"
def TX0 : u_T := fun k => match k with
  | 0 => ("UmbrellaVote$City", "spread", "I", false)
  | 1 => ("UmbrellaVote$City", "shade", "I", false)
  | 2 => ("UmbrellaVote$City", "there", "I", false)
  | 3 => ("UmbrellaVote$City", "holes", "I", false)
  | 4 => ("UmbrellaVote$City", "cotton", "I", false)
  | 5 => ("UmbrellaVote$City", "tables", "I", false)
  | 6 => ("UmbrellaVote$City", "sights", "I", false)
  | 7 => ("UmbrellaVote$City", "places", "[I", true)
  | 8 => ("UmbrellaVote$City", "slows", "[I", true)
  | 9 => ("UmbrellaVote$City", "weights", "[I", true)
  | 10 => ("UmbrellaVote$City", "sightHows", "[I", true)
  | _ => ("UmbrellaVote$City", "sightOfs", "[I", true)
def tyX0 : Nat → FieldType := fun k => match k with
  | 0 => .int
  | 1 => .int
  | 2 => .int
  | 3 => .int
  | 4 => .int
  | 5 => .int
  | 6 => .int
  | 7 => .array .int
  | 8 => .array .int
  | 9 => .array .int
  | 10 => .array .int
  | _ => .array .int
abbrev wsX00 : List Cond := u_ws RX0 TX0 12
theorem nmX0 : ∀ a, a < 12 → ∀ b, b < 12 → a ≠ b → (TX0 a).2.1 ≠ (TX0 b).2.1 := by decide +kernel
theorem tyX0_ok : ∀ k, k < 12 → parseFieldDescriptor (TX0 k).2.2.1 = some (tyX0 k) := by decide +kernel
abbrev cX0_init : ByteArray := prog_2_method_1_code
def yX0_init : MethodName := ⟨RX0, "<init>", "()V"⟩
abbrev cX0_copyFrom : ByteArray := prog_2_method_2_code
def yX0_copyFrom : MethodName := ⟨RX0, "copyFrom", "(LUmbrellaVote$City;)V"⟩
abbrev cX0_isThere : ByteArray := prog_2_method_3_code
def yX0_isThere : MethodName := ⟨RX0, "isThere", "(I)Z"⟩
abbrev cX0_put : ByteArray := prog_2_method_4_code
def yX0_put : MethodName := ⟨RX0, "put", "(III)V"⟩
abbrev cX0_umbrellas : ByteArray := prog_2_method_5_code
def yX0_umbrellas : MethodName := ⟨RX0, "umbrellas", "()I"⟩
abbrev cX0_openTime : ByteArray := prog_2_method_6_code
def yX0_openTime : MethodName := ⟨RX0, "openTime", "(II)I"⟩
abbrev cX0_openTimeAt : ByteArray := prog_2_method_7_code
def yX0_openTimeAt : MethodName := ⟨RX0, "openTimeAt", "(III)I"⟩
abbrev cX0_firstOf : ByteArray := prog_2_method_8_code
def yX0_firstOf : MethodName := ⟨RX0, "firstOf", "(II)I"⟩
abbrev cX0_rulers : ByteArray := prog_2_method_9_code
def yX0_rulers : MethodName := ⟨RX0, "rulers", "(I)I"⟩
abbrev cX0_sprinkled : ByteArray := prog_2_method_10_code
def yX0_sprinkled : MethodName := ⟨RX0, "sprinkled", "(II)I"⟩
abbrev cX0_allWeights : ByteArray := prog_2_method_11_code
def yX0_allWeights : MethodName := ⟨RX0, "allWeights", "()I"⟩
abbrev cX0_allShares : ByteArray := prog_2_method_12_code
def yX0_allShares : MethodName := ⟨RX0, "allShares", "()I"⟩
abbrev cX0_shareOf : ByteArray := prog_2_method_13_code
def yX0_shareOf : MethodName := ⟨RX0, "shareOf", "(I)I"⟩
abbrev cX0_addSight : ByteArray := prog_2_method_14_code
def yX0_addSight : MethodName := ⟨RX0, "addSight", "(II)Z"⟩
abbrev cX0_fitsSights : ByteArray := prog_2_method_15_code
def yX0_fitsSights : MethodName := ⟨RX0, "fitsSights", "(I)Z"⟩
def RX1 : String := "UmbrellaVote$History"
def TX1 : u_T := fun k => match k with
  | 0 => ("UmbrellaVote$History", "city", "LUmbrellaVote$City;", true)
  | 1 => ("UmbrellaVote$History", "years", "[I", true)
  | 2 => ("UmbrellaVote$History", "ruling", "I", false)
  | 3 => ("UmbrellaVote$History", "broken", "I", false)
  | _ => ("UmbrellaVote$History", "reigns", "I", false)
def tyX1 : Nat → FieldType := fun k => match k with
  | 0 => .object "UmbrellaVote$City"
  | 1 => .array .int
  | 2 => .int
  | 3 => .int
  | _ => .int
abbrev wsX10 : List Cond := u_ws RX1 TX1 5
theorem nmX1 : ∀ a, a < 5 → ∀ b, b < 5 → a ≠ b → (TX1 a).2.1 ≠ (TX1 b).2.1 := by decide +kernel
theorem tyX1_ok : ∀ k, k < 5 → parseFieldDescriptor (TX1 k).2.2.1 = some (tyX1 k) := by decide +kernel
abbrev cX1_init : ByteArray := prog_3_method_1_code
def yX1_init : MethodName := ⟨RX1, "<init>", "(LUmbrellaVote$City;)V"⟩
abbrev cX1_begin : ByteArray := prog_3_method_2_code
def yX1_begin : MethodName := ⟨RX1, "begin", "()V"⟩
abbrev cX1_play : ByteArray := prog_3_method_3_code
def yX1_play : MethodName := ⟨RX1, "play", "(LUmbrellaVote$Pad;I)V"⟩
abbrev cX1_happen : ByteArray := prog_3_method_4_code
def yX1_happen : MethodName := ⟨RX1, "happen", "(II)V"⟩
abbrev cX1_umbrellas : ByteArray := prog_3_method_5_code
def yX1_umbrellas : MethodName := ⟨RX1, "umbrellas", "()I"⟩
abbrev cX1_rain : ByteArray := prog_3_method_6_code
def yX1_rain : MethodName := ⟨RX1, "rain", "(I)V"⟩
abbrev cX1_opened : ByteArray := prog_3_method_7_code
def yX1_opened : MethodName := ⟨RX1, "opened", "(I)V"⟩
abbrev cX1_breakUmbrella : ByteArray := prog_3_method_8_code
def yX1_breakUmbrella : MethodName := ⟨RX1, "breakUmbrella", "(I)V"⟩
abbrev cX1_become : ByteArray := prog_3_method_9_code
def yX1_become : MethodName := ⟨RX1, "become", "(I)V"⟩
abbrev cX1_pass : ByteArray := prog_3_method_10_code
def yX1_pass : MethodName := ⟨RX1, "pass", "(I)V"⟩
abbrev cX1_yearsOf : ByteArray := prog_3_method_11_code
def yX1_yearsOf : MethodName := ⟨RX1, "yearsOf", "(I)I"⟩
def RX2 : String := "UmbrellaVote$Pad"
def TX2 : u_T := fun k => match k with
  | 0 => ("UmbrellaVote$Pad", "signs", "[I", true)
  | _ => ("UmbrellaVote$Pad", "count", "I", false)
def tyX2 : Nat → FieldType := fun k => match k with
  | 0 => .array .int
  | _ => .int
abbrev wsX20 : List Cond := u_ws RX2 TX2 2
theorem nmX2 : ∀ a, a < 2 → ∀ b, b < 2 → a ≠ b → (TX2 a).2.1 ≠ (TX2 b).2.1 := by decide +kernel
theorem tyX2_ok : ∀ k, k < 2 → parseFieldDescriptor (TX2 k).2.2.1 = some (tyX2 k) := by decide +kernel
abbrev cX2_init : ByteArray := prog_4_method_1_code
def yX2_init : MethodName := ⟨RX2, "<init>", "()V"⟩
abbrev cX2_write : ByteArray := prog_4_method_2_code
def yX2_write : MethodName := ⟨RX2, "write", "(I)Z"⟩
abbrev cX2_sign : ByteArray := prog_4_method_3_code
def yX2_sign : MethodName := ⟨RX2, "sign", "(I)I"⟩
abbrev cX2_takesAnother : ByteArray := prog_4_method_4_code
def yX2_takesAnother : MethodName := ⟨RX2, "takesAnother", "(I)Z"⟩
abbrev cX2_canBegin : ByteArray := prog_4_method_5_code
def yX2_canBegin : MethodName := ⟨RX2, "canBegin", "(I)Z"⟩
abbrev cX2_canFollow : ByteArray := prog_4_method_6_code
def yX2_canFollow : MethodName := ⟨RX2, "canFollow", "(II)Z"⟩
abbrev cX2_firstFault : ByteArray := prog_4_method_7_code
def yX2_firstFault : MethodName := ⟨RX2, "firstFault", "()I"⟩
abbrev cX2_parts : ByteArray := prog_4_method_8_code
def yX2_parts : MethodName := ⟨RX2, "parts", "()I"⟩
def RX3 : String := "UmbrellaVote$Resting"
def TX3 : u_T := fun k => match k with
  | 0 => ("UmbrellaVote$Resting", "rows", "I", false)
  | 1 => ("UmbrellaVote$Resting", "weights", "[I", true)
  | 2 => ("UmbrellaVote$Resting", "times", "[I", true)
  | 3 => ("UmbrellaVote$Resting", "shares", "[I", true)
  | _ => ("UmbrellaVote$Resting", "greatest", "[I", true)
def tyX3 : Nat → FieldType := fun k => match k with
  | 0 => .int
  | 1 => .array .int
  | 2 => .array .int
  | 3 => .array .int
  | _ => .array .int
abbrev wsX30 : List Cond := u_ws RX3 TX3 5
theorem nmX3 : ∀ a, a < 5 → ∀ b, b < 5 → a ≠ b → (TX3 a).2.1 ≠ (TX3 b).2.1 := by decide +kernel
theorem tyX3_ok : ∀ k, k < 5 → parseFieldDescriptor (TX3 k).2.2.1 = some (tyX3 k) := by decide +kernel
abbrev cX3_init : ByteArray := prog_5_method_1_code
def yX3_init : MethodName := ⟨RX3, "<init>", "()V"⟩
abbrev cX3_weigh : ByteArray := prog_5_method_2_code
def yX3_weigh : MethodName := ⟨RX3, "weigh", "(LUmbrellaVote$City;)V"⟩
abbrev cX3_fillSlots : ByteArray := prog_5_method_3_code
def yX3_fillSlots : MethodName := ⟨RX3, "fillSlots", "(LUmbrellaVote$City;)V"⟩
abbrev cX3_fillTimes : ByteArray := prog_5_method_4_code
def yX3_fillTimes : MethodName := ⟨RX3, "fillTimes", "(LUmbrellaVote$City;II)V"⟩
abbrev cX3_pair : ByteArray := prog_5_method_5_code
def yX3_pair : MethodName := ⟨RX3, "pair", "(III)I"⟩
abbrev cX3_weighRow : ByteArray := prog_5_method_6_code
def yX3_weighRow : MethodName := ⟨RX3, "weighRow", "(I)V"⟩
abbrev cX3_keep : ByteArray := prog_5_method_7_code
def yX3_keep : MethodName := ⟨RX3, "keep", "(III)V"⟩
abbrev cX3_isRest : ByteArray := prog_5_method_8_code
def yX3_isRest : MethodName := ⟨RX3, "isRest", "(I)Z"⟩
abbrev cX3_howMany : ByteArray := prog_5_method_9_code
def yX3_howMany : MethodName := ⟨RX3, "howMany", "()I"⟩
abbrev cX3_row : ByteArray := prog_5_method_10_code
def yX3_row : MethodName := ⟨RX3, "row", "(I)I"⟩
def RX4 : String := "UmbrellaVote"
def TX4 : u_T := fun k => match k with
  | 0 => ("UmbrellaVote", "city", "LUmbrellaVote$City;", true)
  | 1 => ("UmbrellaVote", "trial", "LUmbrellaVote$City;", true)
  | 2 => ("UmbrellaVote", "images", "[LUmbrellaVote$City;", true)
  | 3 => ("UmbrellaVote", "pad", "LUmbrellaVote$Pad;", true)
  | 4 => ("UmbrellaVote", "history", "LUmbrellaVote$History;", true)
  | _ => ("UmbrellaVote", "resting", "LUmbrellaVote$Resting;", true)
def tyX4 : Nat → FieldType := fun k => match k with
  | 0 => .object "UmbrellaVote$City"
  | 1 => .object "UmbrellaVote$City"
  | 2 => .array (.object "UmbrellaVote$City")
  | 3 => .object "UmbrellaVote$Pad"
  | 4 => .object "UmbrellaVote$History"
  | _ => .object "UmbrellaVote$Resting"
abbrev wsX40 : List Cond := u_ws RX4 TX4 6
theorem nmX4 : ∀ a, a < 6 → ∀ b, b < 6 → a ≠ b → (TX4 a).2.1 ≠ (TX4 b).2.1 := by decide +kernel
theorem tyX4_ok : ∀ k, k < 6 → parseFieldDescriptor (TX4 k).2.2.1 = some (tyX4 k) := by decide +kernel
abbrev cX4_init : ByteArray := prog_1_method_1_code
def yX4_init : MethodName := ⟨RX4, "<init>", "()V"⟩
abbrev cX4_stand : ByteArray := prog_1_method_2_code
def yX4_stand : MethodName := ⟨RX4, "stand", "(IIIIZ)I"⟩
abbrev cX4_leave : ByteArray := prog_1_method_3_code
def yX4_leave : MethodName := ⟨RX4, "leave", "(I)I"⟩
abbrev cX4_table : ByteArray := prog_1_method_4_code
def yX4_table : MethodName := ⟨RX4, "table", "(IZ)I"⟩
abbrev cX4_set : ByteArray := prog_1_method_5_code
def yX4_set : MethodName := ⟨RX4, "set", "(II)I"⟩
abbrev cX4_say : ByteArray := prog_1_method_6_code
def yX4_say : MethodName := ⟨RX4, "say", "(I)I"⟩
abbrev cX4_wipe : ByteArray := prog_1_method_7_code
def yX4_wipe : MethodName := ⟨RX4, "wipe", "()I"⟩
abbrev cX4_fault : ByteArray := prog_1_method_8_code
def yX4_fault : MethodName := ⟨RX4, "fault", "()I"⟩
abbrev cX4_rules : ByteArray := prog_1_method_9_code
def yX4_rules : MethodName := ⟨RX4, "rules", "(II)I"⟩
abbrev cX4_opens : ByteArray := prog_1_method_10_code
def yX4_opens : MethodName := ⟨RX4, "opens", "(II)I"⟩
abbrev cX4_never : ByteArray := prog_1_method_11_code
def yX4_never : MethodName := ⟨RX4, "never", "()I"⟩
abbrev cX4_reign : ByteArray := prog_1_method_12_code
def yX4_reign : MethodName := ⟨RX4, "reign", "(I)I"⟩
abbrev cX4_years : ByteArray := prog_1_method_13_code
def yX4_years : MethodName := ⟨RX4, "years", "(I)I"⟩
abbrev cX4_weight : ByteArray := prog_1_method_14_code
def yX4_weight : MethodName := ⟨RX4, "weight", "(II)I"⟩
abbrev cX4_chance : ByteArray := prog_1_method_15_code
def yX4_chance : MethodName := ⟨RX4, "chance", "(II)J"⟩
abbrev cX4_best : ByteArray := prog_1_method_16_code
def yX4_best : MethodName := ⟨RX4, "best", "(I)I"⟩
abbrev cX4_bestChance : ByteArray := prog_1_method_17_code
def yX4_bestChance : MethodName := ⟨RX4, "bestChance", "(II)J"⟩
abbrev cX4_rests : ByteArray := prog_1_method_18_code
def yX4_rests : MethodName := ⟨RX4, "rests", "(I)I"⟩
abbrev cX4_coup : ByteArray := prog_1_method_19_code
def yX4_coup : MethodName := ⟨RX4, "coup", "(I)I"⟩
abbrev cX4_quick : ByteArray := prog_1_method_20_code
def yX4_quick : MethodName := ⟨RX4, "quick", "(III)I"⟩
abbrev cX4_bestPlace : ByteArray := prog_1_method_21_code
def yX4_bestPlace : MethodName := ⟨RX4, "bestPlace", "(I)I"⟩
abbrev cX4_trialShare : ByteArray := prog_1_method_22_code
def yX4_trialShare : MethodName := ⟨RX4, "trialShare", "(III)I"⟩
abbrev cX4_seen : ByteArray := prog_1_method_23_code
def yX4_seen : MethodName := ⟨RX4, "seen", "(II)I"⟩
abbrev cX4_forget : ByteArray := prog_1_method_24_code
def yX4_forget : MethodName := ⟨RX4, "forget", "()I"⟩
abbrev cX4_fits : ByteArray := prog_1_method_25_code
def yX4_fits : MethodName := ⟨RX4, "fits", "()I"⟩
abbrev cX4_year : ByteArray := prog_1_method_26_code
def yX4_year : MethodName := ⟨RX4, "year", "(III)I"⟩
abbrev cX4_image : ByteArray := prog_1_method_27_code
def yX4_image : MethodName := ⟨RX4, "image", "(I)I"⟩
abbrev cX4_restore : ByteArray := prog_1_method_28_code
def yX4_restore : MethodName := ⟨RX4, "restore", "(I)I"⟩
abbrev cX4_told : ByteArray := prog_1_method_29_code
def yX4_told : MethodName := ⟨RX4, "told", "(I)I"⟩
abbrev cX4_toldOfPerson : ByteArray := prog_1_method_30_code
def yX4_toldOfPerson : MethodName := ⟨RX4, "toldOfPerson", "(II)I"⟩
abbrev cX4_within : ByteArray := prog_1_method_31_code
def yX4_within : MethodName := ⟨RX4, "within", "(III)Z"⟩
abbrev cX4_isPlace : ByteArray := prog_1_method_32_code
def yX4_isPlace : MethodName := ⟨RX4, "isPlace", "(I)Z"⟩
abbrev cX4_hasBit : ByteArray := prog_1_method_33_code
def yX4_hasBit : MethodName := ⟨RX4, "hasBit", "(II)Z"⟩
abbrev cX4_withBit : ByteArray := prog_1_method_34_code
def yX4_withBit : MethodName := ⟨RX4, "withBit", "(IIZ)I"⟩
abbrev cX4_firstPerson : ByteArray := prog_1_method_35_code
def yX4_firstPerson : MethodName := ⟨RX4, "firstPerson", "(I)I"⟩
abbrev cX4_fraction : ByteArray := prog_1_method_36_code
def yX4_fraction : MethodName := ⟨RX4, "fraction", "(III)J"⟩
abbrev cX4_commonDivisor : ByteArray := prog_1_method_37_code
def yX4_commonDivisor : MethodName := ⟨RX4, "commonDivisor", "(II)I"⟩
def RX5 : String := "UmbrellaVoteModel"
def TX5 : u_T := fun k => match k with
  | 0 => ("UmbrellaVoteModel", "there", "I", false)
  | 1 => ("UmbrellaVoteModel", "placeOf", "[I", true)
  | 2 => ("UmbrellaVoteModel", "slowOf", "[I", true)
  | 3 => ("UmbrellaVoteModel", "partyOf", "[I", true)
  | 4 => ("UmbrellaVoteModel", "holes", "I", false)
  | 5 => ("UmbrellaVoteModel", "tables", "I", false)
  | 6 => ("UmbrellaVoteModel", "spread", "I", false)
  | 7 => ("UmbrellaVoteModel", "shade", "I", false)
  | 8 => ("UmbrellaVoteModel", "weight", "[I", true)
  | 9 => ("UmbrellaVoteModel", "sightHow", "[I", true)
  | 10 => ("UmbrellaVoteModel", "sightOf", "[I", true)
  | 11 => ("UmbrellaVoteModel", "sights", "I", false)
  | 12 => ("UmbrellaVoteModel", "pad", "[I", true)
  | 13 => ("UmbrellaVoteModel", "padMany", "I", false)
  | 14 => ("UmbrellaVoteModel", "years", "[I", true)
  | 15 => ("UmbrellaVoteModel", "reigns", "I", false)
  | 16 => ("UmbrellaVoteModel", "ruling", "I", false)
  | 17 => ("UmbrellaVoteModel", "bestPlace", "I", false)
  | 18 => ("UmbrellaVoteModel", "bestIs", "I", false)
  | 19 => ("UmbrellaVoteModel", "hadPlace", "[I", true)
  | 20 => ("UmbrellaVoteModel", "kept", "[I", true)
  | 21 => ("UmbrellaVoteModel", "isKept", "[Z", true)
  | 22 => ("UmbrellaVoteModel", "keptAt", "I", false)
  | _ => ("UmbrellaVoteModel", "isWriting", "Z", false)
def tyX5 : Nat → FieldType := fun k => match k with
  | 0 => .int
  | 1 => .array .int
  | 2 => .array .int
  | 3 => .array .int
  | 4 => .int
  | 5 => .int
  | 6 => .int
  | 7 => .int
  | 8 => .array .int
  | 9 => .array .int
  | 10 => .array .int
  | 11 => .int
  | 12 => .array .int
  | 13 => .int
  | 14 => .array .int
  | 15 => .int
  | 16 => .int
  | 17 => .int
  | 18 => .int
  | 19 => .array .int
  | 20 => .array .int
  | 21 => .array .boolean
  | 22 => .int
  | _ => .boolean
abbrev wsX50 : List Cond := u_ws RX5 TX5 24
theorem nmX5 : ∀ a, a < 24 → ∀ b, b < 24 → a ≠ b → (TX5 a).2.1 ≠ (TX5 b).2.1 := by decide +kernel
theorem tyX5_ok : ∀ k, k < 24 → parseFieldDescriptor (TX5 k).2.2.1 = some (tyX5 k) := by decide +kernel
abbrev cX5_init : ByteArray := prog_7_method_1_code
def yX5_init : MethodName := ⟨RX5, "<init>", "()V"⟩
abbrev cX5_in : ByteArray := prog_7_method_3_code
def yX5_in : MethodName := ⟨RX5, "in", "(JJJ)Z"⟩
abbrev cX5_ones : ByteArray := prog_7_method_4_code
def yX5_ones : MethodName := ⟨RX5, "ones", "(I)I"⟩
abbrev cX5_isPerson : ByteArray := prog_7_method_5_code
def yX5_isPerson : MethodName := ⟨RX5, "isPerson", "(I)Z"⟩
abbrev cX5_isPlace : ByteArray := prog_7_method_6_code
def yX5_isPlace : MethodName := ⟨RX5, "isPlace", "(I)Z"⟩
abbrev cX5_isThere : ByteArray := prog_7_method_7_code
def yX5_isThere : MethodName := ⟨RX5, "isThere", "(I)Z"⟩
abbrev cX5_stand : ByteArray := prog_7_method_8_code
def yX5_stand : MethodName := ⟨RX5, "stand", "(IIIIZ)I"⟩
abbrev cX5_leave : ByteArray := prog_7_method_9_code
def yX5_leave : MethodName := ⟨RX5, "leave", "(I)I"⟩
abbrev cX5_table : ByteArray := prog_7_method_10_code
def yX5_table : MethodName := ⟨RX5, "table", "(IZ)I"⟩
abbrev cX5_set : ByteArray := prog_7_method_11_code
def yX5_set : MethodName := ⟨RX5, "set", "(II)I"⟩
abbrev cX5_say : ByteArray := prog_7_method_12_code
def yX5_say : MethodName := ⟨RX5, "say", "(I)I"⟩
abbrev cX5_wipe : ByteArray := prog_7_method_13_code
def yX5_wipe : MethodName := ⟨RX5, "wipe", "()I"⟩
abbrev cX5_canStand : ByteArray := prog_7_method_14_code
def yX5_canStand : MethodName := ⟨RX5, "canStand", "(II)Z"⟩
abbrev cX5_isOpening : ByteArray := prog_7_method_15_code
def yX5_isOpening : MethodName := ⟨RX5, "isOpening", "(II)Z"⟩
abbrev cX5_fault : ByteArray := prog_7_method_16_code
def yX5_fault : MethodName := ⟨RX5, "fault", "()I"⟩
abbrev cX5_opensAt : ByteArray := prog_7_method_17_code
def yX5_opensAt : MethodName := ⟨RX5, "opensAt", "(II)I"⟩
abbrev cX5_firstAt : ByteArray := prog_7_method_18_code
def yX5_firstAt : MethodName := ⟨RX5, "firstAt", "(I)I"⟩
abbrev cX5_rulersBy : ByteArray := prog_7_method_19_code
def yX5_rulersBy : MethodName := ⟨RX5, "rulersBy", "(I)I"⟩
abbrev cX5_sprinkledBy : ByteArray := prog_7_method_20_code
def yX5_sprinkledBy : MethodName := ⟨RX5, "sprinkledBy", "(I)I"⟩
abbrev cX5_rules : ByteArray := prog_7_method_21_code
def yX5_rules : MethodName := ⟨RX5, "rules", "(II)I"⟩
abbrev cX5_opens : ByteArray := prog_7_method_22_code
def yX5_opens : MethodName := ⟨RX5, "opens", "(II)I"⟩
abbrev cX5_never : ByteArray := prog_7_method_23_code
def yX5_never : MethodName := ⟨RX5, "never", "()I"⟩
abbrev cX5_rule : ByteArray := prog_7_method_24_code
def yX5_rule : MethodName := ⟨RX5, "rule", "(I)V"⟩
abbrev cX5_goYears : ByteArray := prog_7_method_25_code
def yX5_goYears : MethodName := ⟨RX5, "goYears", "(I)V"⟩
abbrev cX5_happen : ByteArray := prog_7_method_26_code
def yX5_happen : MethodName := ⟨RX5, "happen", "(II)V"⟩
abbrev cX5_goParts : ByteArray := prog_7_method_27_code
def yX5_goParts : MethodName := ⟨RX5, "goParts", "(I)I"⟩
abbrev cX5_reign : ByteArray := prog_7_method_28_code
def yX5_reign : MethodName := ⟨RX5, "reign", "(I)I"⟩
abbrev cX5_years : ByteArray := prog_7_method_29_code
def yX5_years : MethodName := ⟨RX5, "years", "(I)I"⟩
abbrev cX5_weights : ByteArray := prog_7_method_30_code
def yX5_weights : MethodName := ⟨RX5, "weights", "()I"⟩
abbrev cX5_weight : ByteArray := prog_7_method_31_code
def yX5_weight : MethodName := ⟨RX5, "weight", "(II)I"⟩
abbrev cX5_sixtieths : ByteArray := prog_7_method_32_code
def yX5_sixtieths : MethodName := ⟨RX5, "sixtieths", "(I)I"⟩
abbrev cX5_lowest : ByteArray := prog_7_method_33_code
def yX5_lowest : MethodName := ⟨RX5, "lowest", "(JJI)J"⟩
abbrev cX5_chance : ByteArray := prog_7_method_34_code
def yX5_chance : MethodName := ⟨RX5, "chance", "(II)J"⟩
abbrev cX5_findStand : ByteArray := prog_7_method_35_code
def yX5_findStand : MethodName := ⟨RX5, "findStand", "(I)V"⟩
abbrev cX5_best : ByteArray := prog_7_method_36_code
def yX5_best : MethodName := ⟨RX5, "best", "(I)I"⟩
abbrev cX5_bestChance : ByteArray := prog_7_method_37_code
def yX5_bestChance : MethodName := ⟨RX5, "bestChance", "(II)J"⟩
abbrev cX5_keepPlaces : ByteArray := prog_7_method_38_code
def yX5_keepPlaces : MethodName := ⟨RX5, "keepPlaces", "()V"⟩
abbrev cX5_putPlaces : ByteArray := prog_7_method_39_code
def yX5_putPlaces : MethodName := ⟨RX5, "putPlaces", "()V"⟩
abbrev cX5_layPlaces : ByteArray := prog_7_method_40_code
def yX5_layPlaces : MethodName := ⟨RX5, "layPlaces", "(I)V"⟩
abbrev cX5_areAtRest : ByteArray := prog_7_method_41_code
def yX5_areAtRest : MethodName := ⟨RX5, "areAtRest", "()Z"⟩
abbrev cX5_rests : ByteArray := prog_7_method_42_code
def yX5_rests : MethodName := ⟨RX5, "rests", "(I)I"⟩
abbrev cX5_coup : ByteArray := prog_7_method_43_code
def yX5_coup : MethodName := ⟨RX5, "coup", "(I)I"⟩
abbrev cX5_quick : ByteArray := prog_7_method_44_code
def yX5_quick : MethodName := ⟨RX5, "quick", "(III)I"⟩
abbrev cX5_seen : ByteArray := prog_7_method_45_code
def yX5_seen : MethodName := ⟨RX5, "seen", "(II)I"⟩
abbrev cX5_forget : ByteArray := prog_7_method_46_code
def yX5_forget : MethodName := ⟨RX5, "forget", "()I"⟩
abbrev cX5_holds : ByteArray := prog_7_method_47_code
def yX5_holds : MethodName := ⟨RX5, "holds", "(II)Z"⟩
abbrev cX5_fits : ByteArray := prog_7_method_48_code
def yX5_fits : MethodName := ⟨RX5, "fits", "()I"⟩
abbrev cX5_year : ByteArray := prog_7_method_49_code
def yX5_year : MethodName := ⟨RX5, "year", "(III)I"⟩
abbrev cX5_carry : ByteArray := prog_7_method_50_code
def yX5_carry : MethodName := ⟨RX5, "carry", "(I)I"⟩
abbrev cX5_passAll : ByteArray := prog_7_method_51_code
def yX5_passAll : MethodName := ⟨RX5, "passAll", "()V"⟩
abbrev cX5_image : ByteArray := prog_7_method_52_code
def yX5_image : MethodName := ⟨RX5, "image", "(I)I"⟩
abbrev cX5_restore : ByteArray := prog_7_method_53_code
def yX5_restore : MethodName := ⟨RX5, "restore", "(I)I"⟩
abbrev cX5_told : ByteArray := prog_7_method_54_code
def yX5_told : MethodName := ⟨RX5, "told", "(I)I"⟩
def RJ6 : String := "java/lang/Integer"
def TJ6 : u_T := fun k => match k with
  | _ => ("", "", "", false)
def tyJ6 : Nat → FieldType := fun k => match k with
  | _ => .int
abbrev wsJ60 : List Cond := u_ws RJ6 TJ6 0
theorem nmJ6 : ∀ a, a < 0 → ∀ b, b < 0 → a ≠ b → (TJ6 a).2.1 ≠ (TJ6 b).2.1 := by decide +kernel
theorem tyJ6_ok : ∀ k, k < 0 → parseFieldDescriptor (TJ6 k).2.2.1 = some (tyJ6 k) := by decide +kernel
abbrev cJ6_bitCount_0f7a4 : ByteArray := prog_8_method_49_code
def yJ6_bitCount_0f7a4 : MethodName := ⟨RJ6, "bitCount", "(I)I"⟩
def RJ9 : String := "java/lang/Math"
def TJ9 : u_T := fun k => match k with
  | _ => ("", "", "", false)
def tyJ9 : Nat → FieldType := fun k => match k with
  | _ => .int
abbrev wsJ90 : List Cond := u_ws RJ9 TJ9 0
theorem nmJ9 : ∀ a, a < 0 → ∀ b, b < 0 → a ≠ b → (TJ9 a).2.1 ≠ (TJ9 b).2.1 := by decide +kernel
theorem tyJ9_ok : ∀ k, k < 0 → parseFieldDescriptor (TJ9 k).2.2.1 = some (tyJ9 k) := by decide +kernel
abbrev cJ9_abs_0f7a4 : ByteArray := prog_9_method_59_code
def yJ9_abs_0f7a4 : MethodName := ⟨RJ9, "abs", "(I)I"⟩
abbrev cJ9_max_7cf53 : ByteArray := prog_9_method_65_code
def yJ9_max_7cf53 : MethodName := ⟨RJ9, "max", "(II)I"⟩
abbrev cJ9_min_7cf53 : ByteArray := prog_9_method_69_code
def yJ9_min_7cf53 : MethodName := ⟨RJ9, "min", "(II)I"⟩
def RJ10 : String := "java/lang/System"
def TJ10 : u_T := fun k => match k with
  | _ => ("", "", "", false)
def tyJ10 : Nat → FieldType := fun k => match k with
  | _ => .int
abbrev wsJ100 : List Cond := u_ws RJ10 TJ10 0
theorem nmJ10 : ∀ a, a < 0 → ∀ b, b < 0 → a ≠ b → (TJ10 a).2.1 ≠ (TJ10 b).2.1 := by decide +kernel
theorem tyJ10_ok : ∀ k, k < 0 → parseFieldDescriptor (TJ10 k).2.2.1 = some (tyJ10 k) := by decide +kernel
def RJ7 : String := "java/util/Arrays"
def TJ7 : u_T := fun k => match k with
  | _ => ("", "", "", false)
def tyJ7 : Nat → FieldType := fun k => match k with
  | _ => .int
abbrev wsJ70 : List Cond := u_ws RJ7 TJ7 0
theorem nmJ7 : ∀ a, a < 0 → ∀ b, b < 0 → a ≠ b → (TJ7 a).2.1 ≠ (TJ7 b).2.1 := by decide +kernel
theorem tyJ7_ok : ∀ k, k < 0 → parseFieldDescriptor (TJ7 k).2.2.1 = some (tyJ7 k) := by decide +kernel
abbrev cJ7_fill_53178 : ByteArray := prog_11_method_103_code
def yJ7_fill_53178 : MethodName := ⟨RJ7, "fill", "([II)V"⟩
def RL : String := "UmbrellaVoteLaw"
abbrev cL_law : ByteArray := code
def yL_law : MethodName := ⟨RL, "law", "([I)Z"⟩
def wsJ7_fill_53178 : List Cond := .code yJ7_fill_53178 cJ7_fill_53178 4 none :: ([])
def wsX0_init : List Cond := .code yX0_init cX0_init 1 none :: ([.methodLink RX0 3 objectInit, .instanceMethod objectInit, .code objectInit ⟨#[0xb1]⟩ 1 none, .fieldLink RX0 9 "UmbrellaVote$City" "spread" "I", .fieldLink RX0 15 "UmbrellaVote$City" "shade" "I", .arrayClass .int, .fieldLink RX0 18 "UmbrellaVote$City" "places" "[I", .fieldLink RX0 22 "UmbrellaVote$City" "slows" "[I", .fieldLink RX0 25 "UmbrellaVote$City" "weights" "[I", .fieldLink RX0 28 "UmbrellaVote$City" "sightHows" "[I", .fieldLink RX0 31 "UmbrellaVote$City" "sightOfs" "[I", .methodLink RX0 34 yJ7_fill_53178, .static yJ7_fill_53178, .initialized RJ7, .code yJ7_fill_53178 cJ7_fill_53178 4 none] ++ wsX00)
def wsX0_copyFrom : List Cond := .code yX0_copyFrom cX0_copyFrom 2 none :: ([.fieldLink RX0 9 "UmbrellaVote$City" "spread" "I", .fieldLink RX0 15 "UmbrellaVote$City" "shade" "I", .fieldLink RX0 40 "UmbrellaVote$City" "there" "I", .fieldLink RX0 43 "UmbrellaVote$City" "holes" "I", .fieldLink RX0 46 "UmbrellaVote$City" "cotton" "I", .fieldLink RX0 49 "UmbrellaVote$City" "tables" "I", .fieldLink RX0 52 "UmbrellaVote$City" "sights" "I", .fieldLink RX0 18 "UmbrellaVote$City" "places" "[I", .methodLink RX0 55 arraycopyName, .native arraycopyName, .static arraycopyName, .initialized "java/lang/System", .fieldLink RX0 22 "UmbrellaVote$City" "slows" "[I", .fieldLink RX0 25 "UmbrellaVote$City" "weights" "[I", .fieldLink RX0 28 "UmbrellaVote$City" "sightHows" "[I", .fieldLink RX0 31 "UmbrellaVote$City" "sightOfs" "[I"] ++ wsX00)
def wsX4_within : List Cond := .code yX4_within cX4_within 3 (some .boolean) :: ([])
def wsX4_hasBit : List Cond := .code yX4_hasBit cX4_hasBit 2 (some .boolean) :: ([])
def wsX0_isThere : List Cond := .code yX0_isThere cX0_isThere 2 (some .boolean) :: ([.fieldLink RX0 40 "UmbrellaVote$City" "there" "I", .static yX4_within, .initialized RX4, .code yX4_within cX4_within 3 (some .boolean), .static yX4_hasBit, .code yX4_hasBit cX4_hasBit 2 (some .boolean)] ++ wsX00)
def wsX0_put : List Cond := .code yX0_put cX0_put 4 none :: ([.fieldLink RX0 18 "UmbrellaVote$City" "places" "[I", .fieldLink RX0 22 "UmbrellaVote$City" "slows" "[I", .static yX4_within, .initialized RX4, .code yX4_within cX4_within 3 (some .boolean)] ++ wsX00)
def wsX0_umbrellas : List Cond := .code yX0_umbrellas cX0_umbrellas 1 (some .int) :: ([.fieldLink RX0 40 "UmbrellaVote$City" "there" "I", .fieldLink RX0 43 "UmbrellaVote$City" "holes" "I"] ++ wsX00)
def wsX0_openTimeAt : List Cond := .code yX0_openTimeAt cX0_openTimeAt 5 (some .int) :: ([.fieldLink RX0 49 "UmbrellaVote$City" "tables" "I", .fieldLink RX0 15 "UmbrellaVote$City" "shade" "I", .methodLink RX0 73 Lib.Math.abs.name, .static Lib.Math.abs.name, .initialized "java/lang/Math", .code Lib.Math.abs.name Lib.Math.abs.code 1 (some .int), .fieldLink RX0 9 "UmbrellaVote$City" "spread" "I", .static yX4_hasBit, .initialized RX4, .code yX4_hasBit cX4_hasBit 2 (some .boolean)] ++ wsX00)
def wsX0_openTime : List Cond := .code yX0_openTime cX0_openTime 3 (some .int) :: ([.fieldLink RX0 18 "UmbrellaVote$City" "places" "[I", .fieldLink RX0 22 "UmbrellaVote$City" "slows" "[I", .static yX4_within, .initialized RX4, .code yX4_within cX4_within 3 (some .boolean), .methodLink RX0 69 yX0_openTimeAt, .instanceMethod yX0_openTimeAt, .selects RX0 yX0_openTimeAt yX0_openTimeAt, .initialized RX0, .code yX0_openTimeAt cX0_openTimeAt 5 (some .int), .fieldLink RX0 49 "UmbrellaVote$City" "tables" "I", .fieldLink RX0 15 "UmbrellaVote$City" "shade" "I", .methodLink RX0 73 Lib.Math.abs.name, .static Lib.Math.abs.name, .initialized "java/lang/Math", .code Lib.Math.abs.name Lib.Math.abs.code 1 (some .int), .fieldLink RX0 9 "UmbrellaVote$City" "spread" "I", .static yX4_hasBit, .code yX4_hasBit cX4_hasBit 2 (some .boolean)] ++ wsX00)
def wsX0_firstOf : List Cond := .code yX0_firstOf cX0_firstOf 7 (some .int) :: ([.constant RX0 81 (2147483647), .fieldLink RX0 18 "UmbrellaVote$City" "places" "[I", .fieldLink RX0 22 "UmbrellaVote$City" "slows" "[I", .methodLink RX0 82 Lib.Math.min.name, .static Lib.Math.min.name, .initialized "java/lang/Math", .code Lib.Math.min.name Lib.Math.min.code 2 (some .int), .static yX4_hasBit, .initialized RX4, .code yX4_hasBit cX4_hasBit 2 (some .boolean), .methodLink RX0 69 yX0_openTimeAt, .instanceMethod yX0_openTimeAt, .selects RX0 yX0_openTimeAt yX0_openTimeAt, .initialized RX0, .code yX0_openTimeAt cX0_openTimeAt 5 (some .int), .fieldLink RX0 49 "UmbrellaVote$City" "tables" "I", .fieldLink RX0 15 "UmbrellaVote$City" "shade" "I", .methodLink RX0 73 Lib.Math.abs.name, .static Lib.Math.abs.name, .code Lib.Math.abs.name Lib.Math.abs.code 1 (some .int), .fieldLink RX0 9 "UmbrellaVote$City" "spread" "I"] ++ wsX00)
def wsX0_rulers_r1 : List Cond := [Cond.methodLink RX0 86 yX0_umbrellas, Cond.instanceMethod yX0_umbrellas, Cond.selects RX0 yX0_umbrellas yX0_umbrellas, Cond.initialized RX0, Cond.code yX0_umbrellas cX0_umbrellas 1 (some .int), Cond.fieldLink RX0 40 "UmbrellaVote$City" "there" "I", Cond.fieldLink RX0 43 "UmbrellaVote$City" "holes" "I", Cond.methodLink RX0 90 yX0_firstOf, Cond.instanceMethod yX0_firstOf, Cond.selects RX0 yX0_firstOf yX0_firstOf, Cond.code yX0_firstOf cX0_firstOf 7 (some .int), Cond.constant RX0 81 (2147483647), Cond.fieldLink RX0 18 "UmbrellaVote$City" "places" "[I", Cond.fieldLink RX0 22 "UmbrellaVote$City" "slows" "[I", Cond.methodLink RX0 82 Lib.Math.min.name, Cond.static Lib.Math.min.name, Cond.initialized "java/lang/Math", Cond.code Lib.Math.min.name Lib.Math.min.code 2 (some .int), Cond.static yX4_hasBit, Cond.initialized RX4, Cond.code yX4_hasBit cX4_hasBit 2 (some .boolean), Cond.methodLink RX0 69 yX0_openTimeAt, Cond.instanceMethod yX0_openTimeAt, Cond.selects RX0 yX0_openTimeAt yX0_openTimeAt]
def wsX0_rulers_r2 : List Cond := [Cond.code yX0_openTimeAt cX0_openTimeAt 5 (some .int), Cond.fieldLink RX0 49 "UmbrellaVote$City" "tables" "I", Cond.fieldLink RX0 15 "UmbrellaVote$City" "shade" "I", Cond.methodLink RX0 73 Lib.Math.abs.name, Cond.static Lib.Math.abs.name, Cond.code Lib.Math.abs.name Lib.Math.abs.code 1 (some .int), Cond.fieldLink RX0 9 "UmbrellaVote$City" "spread" "I"]
def wsX0_rulers : List Cond := .code yX0_rulers cX0_rulers 2 (some .int) :: ((wsX0_rulers_r1 ++ wsX0_rulers_r2) ++ wsX00)
def wsX4_withBit : List Cond := .code yX4_withBit cX4_withBit 3 (some .int) :: ([])
def wsX0_sprinkled_r1 : List Cond := [Cond.fieldLink RX0 18 "UmbrellaVote$City" "places" "[I", Cond.static yX4_withBit, Cond.initialized RX4, Cond.code yX4_withBit cX4_withBit 3 (some .int), Cond.methodLink RX0 90 yX0_firstOf, Cond.instanceMethod yX0_firstOf, Cond.selects RX0 yX0_firstOf yX0_firstOf, Cond.initialized RX0, Cond.code yX0_firstOf cX0_firstOf 7 (some .int), Cond.constant RX0 81 (2147483647), Cond.fieldLink RX0 22 "UmbrellaVote$City" "slows" "[I", Cond.methodLink RX0 82 Lib.Math.min.name, Cond.static Lib.Math.min.name, Cond.initialized "java/lang/Math", Cond.code Lib.Math.min.name Lib.Math.min.code 2 (some .int), Cond.static yX4_hasBit, Cond.code yX4_hasBit cX4_hasBit 2 (some .boolean), Cond.methodLink RX0 69 yX0_openTimeAt, Cond.instanceMethod yX0_openTimeAt, Cond.selects RX0 yX0_openTimeAt yX0_openTimeAt, Cond.code yX0_openTimeAt cX0_openTimeAt 5 (some .int), Cond.fieldLink RX0 49 "UmbrellaVote$City" "tables" "I", Cond.fieldLink RX0 15 "UmbrellaVote$City" "shade" "I", Cond.methodLink RX0 73 Lib.Math.abs.name]
def wsX0_sprinkled_r2 : List Cond := [Cond.static Lib.Math.abs.name, Cond.code Lib.Math.abs.name Lib.Math.abs.code 1 (some .int), Cond.fieldLink RX0 9 "UmbrellaVote$City" "spread" "I"]
def wsX0_sprinkled : List Cond := .code yX0_sprinkled cX0_sprinkled 5 (some .int) :: ((wsX0_sprinkled_r1 ++ wsX0_sprinkled_r2) ++ wsX00)
def wsX0_allWeights : List Cond := .code yX0_allWeights cX0_allWeights 3 (some .int) :: ([.fieldLink RX0 25 "UmbrellaVote$City" "weights" "[I"] ++ wsX00)
def wsX0_allShares : List Cond := .code yX0_allShares cX0_allShares 1 (some .int) :: ([.methodLink RX0 97 yX0_allWeights, .instanceMethod yX0_allWeights, .selects RX0 yX0_allWeights yX0_allWeights, .initialized RX0, .code yX0_allWeights cX0_allWeights 3 (some .int), .fieldLink RX0 25 "UmbrellaVote$City" "weights" "[I"] ++ wsX00)
def wsJ6_bitCount_0f7a4 : List Cond := .code yJ6_bitCount_0f7a4 cJ6_bitCount_0f7a4 1 (some .int) :: ([.constant RJ6 265 (1431655765), .constant RJ6 266 (858993459), .constant RJ6 267 (252645135)])
def wsX0_shareOf_r1 : List Cond := [Cond.fieldLink RX0 25 "UmbrellaVote$City" "weights" "[I", Cond.methodLink RX0 86 yX0_umbrellas, Cond.instanceMethod yX0_umbrellas, Cond.selects RX0 yX0_umbrellas yX0_umbrellas, Cond.initialized RX0, Cond.code yX0_umbrellas cX0_umbrellas 1 (some .int), Cond.fieldLink RX0 40 "UmbrellaVote$City" "there" "I", Cond.fieldLink RX0 43 "UmbrellaVote$City" "holes" "I", Cond.methodLink RX0 90 yX0_firstOf, Cond.instanceMethod yX0_firstOf, Cond.selects RX0 yX0_firstOf yX0_firstOf, Cond.code yX0_firstOf cX0_firstOf 7 (some .int), Cond.constant RX0 81 (2147483647), Cond.fieldLink RX0 18 "UmbrellaVote$City" "places" "[I", Cond.fieldLink RX0 22 "UmbrellaVote$City" "slows" "[I", Cond.methodLink RX0 82 Lib.Math.min.name, Cond.static Lib.Math.min.name, Cond.initialized "java/lang/Math", Cond.code Lib.Math.min.name Lib.Math.min.code 2 (some .int), Cond.static yX4_hasBit, Cond.initialized RX4, Cond.code yX4_hasBit cX4_hasBit 2 (some .boolean), Cond.methodLink RX0 69 yX0_openTimeAt, Cond.instanceMethod yX0_openTimeAt]
def wsX0_shareOf_r2 : List Cond := [Cond.selects RX0 yX0_openTimeAt yX0_openTimeAt, Cond.code yX0_openTimeAt cX0_openTimeAt 5 (some .int), Cond.fieldLink RX0 49 "UmbrellaVote$City" "tables" "I", Cond.fieldLink RX0 15 "UmbrellaVote$City" "shade" "I", Cond.methodLink RX0 73 Lib.Math.abs.name, Cond.static Lib.Math.abs.name, Cond.code Lib.Math.abs.name Lib.Math.abs.code 1 (some .int), Cond.fieldLink RX0 9 "UmbrellaVote$City" "spread" "I", Cond.methodLink RX0 100 yJ6_bitCount_0f7a4, Cond.static yJ6_bitCount_0f7a4, Cond.initialized RJ6, Cond.code yJ6_bitCount_0f7a4 cJ6_bitCount_0f7a4 1 (some .int), Cond.constant RJ6 265 (1431655765), Cond.constant RJ6 266 (858993459), Cond.constant RJ6 267 (252645135)]
def wsX0_shareOf : List Cond := .code yX0_shareOf cX0_shareOf 6 (some .int) :: ((wsX0_shareOf_r1 ++ wsX0_shareOf_r2) ++ wsX00)
def wsX0_addSight : List Cond := .code yX0_addSight cX0_addSight 3 (some .boolean) :: ([.fieldLink RX0 52 "UmbrellaVote$City" "sights" "I", .fieldLink RX0 28 "UmbrellaVote$City" "sightHows" "[I", .fieldLink RX0 31 "UmbrellaVote$City" "sightOfs" "[I", .static yX4_within, .initialized RX4, .code yX4_within cX4_within 3 (some .boolean)] ++ wsX00)
def wsX0_fitsSights : List Cond := .code yX0_fitsSights cX0_fitsSights 5 (some .boolean) :: ([.fieldLink RX0 52 "UmbrellaVote$City" "sights" "I", .fieldLink RX0 31 "UmbrellaVote$City" "sightOfs" "[I", .fieldLink RX0 28 "UmbrellaVote$City" "sightHows" "[I", .static yX4_hasBit, .initialized RX4, .code yX4_hasBit cX4_hasBit 2 (some .boolean)] ++ wsX00)
def wsX1_init : List Cond := .code yX1_init cX1_init 2 none :: ([.methodLink RX1 3 objectInit, .instanceMethod objectInit, .code objectInit ⟨#[0xb1]⟩ 1 none, .arrayClass .int, .fieldLink RX1 9 "UmbrellaVote$History" "years" "[I", .fieldLink RX1 15 "UmbrellaVote$History" "city" "LUmbrellaVote$City;"] ++ wsX10)
def wsX1_begin : List Cond := .code yX1_begin cX1_begin 1 none :: ([.fieldLink RX1 19 "UmbrellaVote$History" "ruling" "I", .fieldLink RX1 23 "UmbrellaVote$History" "broken" "I", .fieldLink RX1 26 "UmbrellaVote$History" "reigns" "I", .fieldLink RX1 9 "UmbrellaVote$History" "years" "[I", .methodLink RX1 29 yJ7_fill_53178, .static yJ7_fill_53178, .initialized RJ7, .code yJ7_fill_53178 cJ7_fill_53178 4 none] ++ wsX10)
def wsX2_sign : List Cond := .code yX2_sign cX2_sign 2 (some .int) :: ([.fieldLink RX2 9 "UmbrellaVote$Pad" "signs" "[I", .static yX4_within, .initialized RX4, .code yX4_within cX4_within 3 (some .boolean)] ++ wsX20)
def wsX2_takesAnother : List Cond := .code yX2_takesAnother cX2_takesAnother 1 (some .boolean) :: ([])
def wsX1_umbrellas : List Cond := .code yX1_umbrellas cX1_umbrellas 1 (some .int) :: ([.fieldLink RX1 15 "UmbrellaVote$History" "city" "LUmbrellaVote$City;", .fieldLink RX1 23 "UmbrellaVote$History" "broken" "I", .methodLink RX1 81 yX0_umbrellas, .instanceMethod yX0_umbrellas, .selects RX0 yX0_umbrellas yX0_umbrellas, .initialized RX0, .code yX0_umbrellas cX0_umbrellas 1 (some .int), .fieldLink RX0 40 "UmbrellaVote$City" "there" "I", .fieldLink RX0 43 "UmbrellaVote$City" "holes" "I"] ++ wsX10 ++ wsX00)
def wsX1_become : List Cond := .code yX1_become cX1_become 2 none :: ([.fieldLink RX1 19 "UmbrellaVote$History" "ruling" "I", .fieldLink RX1 26 "UmbrellaVote$History" "reigns" "I"] ++ wsX10)
def wsX1_opened : List Cond := .code yX1_opened cX1_opened 2 none :: ([.methodLink RX1 69 yX1_become, .instanceMethod yX1_become, .selects RX1 yX1_become yX1_become, .initialized RX1, .code yX1_become cX1_become 2 none, .fieldLink RX1 19 "UmbrellaVote$History" "ruling" "I", .fieldLink RX1 26 "UmbrellaVote$History" "reigns" "I"] ++ wsX10)
def wsX1_pass : List Cond := .code yX1_pass cX1_pass 3 none :: ([.fieldLink RX1 9 "UmbrellaVote$History" "years" "[I", .fieldLink RX1 19 "UmbrellaVote$History" "ruling" "I", .fieldLink RX1 15 "UmbrellaVote$History" "city" "LUmbrellaVote$City;", .fieldLink RX1 93 "UmbrellaVote$City" "cotton" "I", .static yX4_hasBit, .initialized RX4, .code yX4_hasBit cX4_hasBit 2 (some .boolean)] ++ wsX10 ++ wsX00)
def wsX1_breakUmbrella : List Cond := .code yX1_breakUmbrella cX1_breakUmbrella 2 none :: ([.fieldLink RX1 23 "UmbrellaVote$History" "broken" "I", .fieldLink RX1 19 "UmbrellaVote$History" "ruling" "I", .static yX4_withBit, .initialized RX4, .code yX4_withBit cX4_withBit 3 (some .int), .methodLink RX1 69 yX1_become, .instanceMethod yX1_become, .selects RX1 yX1_become yX1_become, .initialized RX1, .code yX1_become cX1_become 2 none, .fieldLink RX1 26 "UmbrellaVote$History" "reigns" "I"] ++ wsX10)
def wsX1_rain_r1 : List Cond := [Cond.fieldLink RX1 15 "UmbrellaVote$History" "city" "LUmbrellaVote$City;", Cond.methodLink RX1 55 yX1_umbrellas, Cond.instanceMethod yX1_umbrellas, Cond.selects RX1 yX1_umbrellas yX1_umbrellas, Cond.initialized RX1, Cond.code yX1_umbrellas cX1_umbrellas 1 (some .int), Cond.fieldLink RX1 23 "UmbrellaVote$History" "broken" "I", Cond.methodLink RX1 81 yX0_umbrellas, Cond.instanceMethod yX0_umbrellas, Cond.selects RX0 yX0_umbrellas yX0_umbrellas, Cond.initialized RX0, Cond.code yX0_umbrellas cX0_umbrellas 1 (some .int), Cond.fieldLink RX0 40 "UmbrellaVote$City" "there" "I", Cond.fieldLink RX0 43 "UmbrellaVote$City" "holes" "I", Cond.methodLink RX1 82 yX0_firstOf, Cond.instanceMethod yX0_firstOf, Cond.selects RX0 yX0_firstOf yX0_firstOf, Cond.code yX0_firstOf cX0_firstOf 7 (some .int), Cond.constant RX0 81 (2147483647), Cond.fieldLink RX0 18 "UmbrellaVote$City" "places" "[I", Cond.fieldLink RX0 22 "UmbrellaVote$City" "slows" "[I", Cond.methodLink RX0 82 Lib.Math.min.name, Cond.static Lib.Math.min.name, Cond.initialized "java/lang/Math"]
def wsX1_rain_r2 : List Cond := [Cond.code Lib.Math.min.name Lib.Math.min.code 2 (some .int), Cond.static yX4_hasBit, Cond.initialized RX4, Cond.code yX4_hasBit cX4_hasBit 2 (some .boolean), Cond.methodLink RX0 69 yX0_openTimeAt, Cond.instanceMethod yX0_openTimeAt, Cond.selects RX0 yX0_openTimeAt yX0_openTimeAt, Cond.code yX0_openTimeAt cX0_openTimeAt 5 (some .int), Cond.fieldLink RX0 49 "UmbrellaVote$City" "tables" "I", Cond.fieldLink RX0 15 "UmbrellaVote$City" "shade" "I", Cond.methodLink RX0 73 Lib.Math.abs.name, Cond.static Lib.Math.abs.name, Cond.code Lib.Math.abs.name Lib.Math.abs.code 1 (some .int), Cond.fieldLink RX0 9 "UmbrellaVote$City" "spread" "I", Cond.methodLink RX1 65 yX1_opened, Cond.instanceMethod yX1_opened, Cond.selects RX1 yX1_opened yX1_opened, Cond.code yX1_opened cX1_opened 2 none, Cond.methodLink RX1 69 yX1_become, Cond.instanceMethod yX1_become, Cond.selects RX1 yX1_become yX1_become, Cond.code yX1_become cX1_become 2 none, Cond.fieldLink RX1 19 "UmbrellaVote$History" "ruling" "I", Cond.fieldLink RX1 26 "UmbrellaVote$History" "reigns" "I"]
def wsX1_rain : List Cond := .code yX1_rain cX1_rain 2 none :: ((wsX1_rain_r1 ++ wsX1_rain_r2) ++ wsX10 ++ wsX00)
def wsX1_happen_r1 : List Cond := [Cond.fieldLink RX1 15 "UmbrellaVote$History" "city" "LUmbrellaVote$City;", Cond.methodLink RX1 55 yX1_umbrellas, Cond.instanceMethod yX1_umbrellas, Cond.selects RX1 yX1_umbrellas yX1_umbrellas, Cond.initialized RX1, Cond.code yX1_umbrellas cX1_umbrellas 1 (some .int), Cond.fieldLink RX1 23 "UmbrellaVote$History" "broken" "I", Cond.methodLink RX1 81 yX0_umbrellas, Cond.instanceMethod yX0_umbrellas, Cond.selects RX0 yX0_umbrellas yX0_umbrellas, Cond.initialized RX0, Cond.code yX0_umbrellas cX0_umbrellas 1 (some .int), Cond.fieldLink RX0 40 "UmbrellaVote$City" "there" "I", Cond.fieldLink RX0 43 "UmbrellaVote$City" "holes" "I", Cond.methodLink RX1 59 yX0_sprinkled, Cond.instanceMethod yX0_sprinkled, Cond.selects RX0 yX0_sprinkled yX0_sprinkled, Cond.code yX0_sprinkled cX0_sprinkled 5 (some .int), Cond.fieldLink RX0 18 "UmbrellaVote$City" "places" "[I", Cond.static yX4_withBit, Cond.initialized RX4, Cond.code yX4_withBit cX4_withBit 3 (some .int), Cond.methodLink RX0 90 yX0_firstOf, Cond.instanceMethod yX0_firstOf]
def wsX1_happen_r2 : List Cond := [Cond.selects RX0 yX0_firstOf yX0_firstOf, Cond.code yX0_firstOf cX0_firstOf 7 (some .int), Cond.constant RX0 81 (2147483647), Cond.fieldLink RX0 22 "UmbrellaVote$City" "slows" "[I", Cond.methodLink RX0 82 Lib.Math.min.name, Cond.static Lib.Math.min.name, Cond.initialized "java/lang/Math", Cond.code Lib.Math.min.name Lib.Math.min.code 2 (some .int), Cond.static yX4_hasBit, Cond.code yX4_hasBit cX4_hasBit 2 (some .boolean), Cond.methodLink RX0 69 yX0_openTimeAt, Cond.instanceMethod yX0_openTimeAt, Cond.selects RX0 yX0_openTimeAt yX0_openTimeAt, Cond.code yX0_openTimeAt cX0_openTimeAt 5 (some .int), Cond.fieldLink RX0 49 "UmbrellaVote$City" "tables" "I", Cond.fieldLink RX0 15 "UmbrellaVote$City" "shade" "I", Cond.methodLink RX0 73 Lib.Math.abs.name, Cond.static Lib.Math.abs.name, Cond.code Lib.Math.abs.name Lib.Math.abs.code 1 (some .int), Cond.fieldLink RX0 9 "UmbrellaVote$City" "spread" "I", Cond.methodLink RX1 65 yX1_opened, Cond.instanceMethod yX1_opened, Cond.selects RX1 yX1_opened yX1_opened, Cond.code yX1_opened cX1_opened 2 none]
def wsX1_happen_r3 : List Cond := [Cond.methodLink RX1 69 yX1_become, Cond.instanceMethod yX1_become, Cond.selects RX1 yX1_become yX1_become, Cond.code yX1_become cX1_become 2 none, Cond.fieldLink RX1 19 "UmbrellaVote$History" "ruling" "I", Cond.fieldLink RX1 26 "UmbrellaVote$History" "reigns" "I", Cond.methodLink RX1 72 yX1_pass, Cond.instanceMethod yX1_pass, Cond.selects RX1 yX1_pass yX1_pass, Cond.code yX1_pass cX1_pass 3 none, Cond.fieldLink RX1 9 "UmbrellaVote$History" "years" "[I", Cond.fieldLink RX1 93 "UmbrellaVote$City" "cotton" "I", Cond.methodLink RX1 75 yX1_breakUmbrella, Cond.instanceMethod yX1_breakUmbrella, Cond.selects RX1 yX1_breakUmbrella yX1_breakUmbrella, Cond.code yX1_breakUmbrella cX1_breakUmbrella 2 none, Cond.methodLink RX1 78 yX1_rain, Cond.instanceMethod yX1_rain, Cond.selects RX1 yX1_rain yX1_rain, Cond.code yX1_rain cX1_rain 2 none, Cond.methodLink RX1 82 yX0_firstOf]
def wsX1_happen : List Cond := .code yX1_happen cX1_happen 3 none :: ((wsX1_happen_r1 ++ (wsX1_happen_r2 ++ wsX1_happen_r3)) ++ wsX10 ++ wsX00)
def wsX1_play_r1 : List Cond := [Cond.fieldLink RX1 38 "UmbrellaVote$Pad" "count" "I", Cond.methodLink RX1 35 yX1_begin, Cond.instanceMethod yX1_begin, Cond.selects RX1 yX1_begin yX1_begin, Cond.initialized RX1, Cond.code yX1_begin cX1_begin 1 none, Cond.fieldLink RX1 19 "UmbrellaVote$History" "ruling" "I", Cond.fieldLink RX1 23 "UmbrellaVote$History" "broken" "I", Cond.fieldLink RX1 26 "UmbrellaVote$History" "reigns" "I", Cond.fieldLink RX1 9 "UmbrellaVote$History" "years" "[I", Cond.methodLink RX1 29 yJ7_fill_53178, Cond.static yJ7_fill_53178, Cond.initialized RJ7, Cond.code yJ7_fill_53178 cJ7_fill_53178 4 none, Cond.methodLink RX1 43 yX2_sign, Cond.instanceMethod yX2_sign, Cond.selects RX2 yX2_sign yX2_sign, Cond.initialized RX2, Cond.code yX2_sign cX2_sign 2 (some .int), Cond.fieldLink RX2 9 "UmbrellaVote$Pad" "signs" "[I", Cond.static yX4_within, Cond.initialized RX4, Cond.code yX4_within cX4_within 3 (some .boolean), Cond.methodLink RX1 47 yX2_takesAnother]
def wsX1_play_r2 : List Cond := [Cond.static yX2_takesAnother, Cond.code yX2_takesAnother cX2_takesAnother 1 (some .boolean), Cond.methodLink RX1 51 yX1_happen, Cond.instanceMethod yX1_happen, Cond.selects RX1 yX1_happen yX1_happen, Cond.code yX1_happen cX1_happen 3 none, Cond.fieldLink RX1 15 "UmbrellaVote$History" "city" "LUmbrellaVote$City;", Cond.methodLink RX1 55 yX1_umbrellas, Cond.instanceMethod yX1_umbrellas, Cond.selects RX1 yX1_umbrellas yX1_umbrellas, Cond.code yX1_umbrellas cX1_umbrellas 1 (some .int), Cond.methodLink RX1 81 yX0_umbrellas, Cond.instanceMethod yX0_umbrellas, Cond.selects RX0 yX0_umbrellas yX0_umbrellas, Cond.initialized RX0, Cond.code yX0_umbrellas cX0_umbrellas 1 (some .int), Cond.fieldLink RX0 40 "UmbrellaVote$City" "there" "I", Cond.fieldLink RX0 43 "UmbrellaVote$City" "holes" "I", Cond.methodLink RX1 59 yX0_sprinkled, Cond.instanceMethod yX0_sprinkled, Cond.selects RX0 yX0_sprinkled yX0_sprinkled, Cond.code yX0_sprinkled cX0_sprinkled 5 (some .int), Cond.fieldLink RX0 18 "UmbrellaVote$City" "places" "[I", Cond.static yX4_withBit]
def wsX1_play_r3 : List Cond := [Cond.code yX4_withBit cX4_withBit 3 (some .int), Cond.methodLink RX0 90 yX0_firstOf, Cond.instanceMethod yX0_firstOf, Cond.selects RX0 yX0_firstOf yX0_firstOf, Cond.code yX0_firstOf cX0_firstOf 7 (some .int), Cond.constant RX0 81 (2147483647), Cond.fieldLink RX0 22 "UmbrellaVote$City" "slows" "[I", Cond.methodLink RX0 82 Lib.Math.min.name, Cond.static Lib.Math.min.name, Cond.initialized "java/lang/Math", Cond.code Lib.Math.min.name Lib.Math.min.code 2 (some .int), Cond.static yX4_hasBit, Cond.code yX4_hasBit cX4_hasBit 2 (some .boolean), Cond.methodLink RX0 69 yX0_openTimeAt, Cond.instanceMethod yX0_openTimeAt, Cond.selects RX0 yX0_openTimeAt yX0_openTimeAt, Cond.code yX0_openTimeAt cX0_openTimeAt 5 (some .int), Cond.fieldLink RX0 49 "UmbrellaVote$City" "tables" "I", Cond.fieldLink RX0 15 "UmbrellaVote$City" "shade" "I", Cond.methodLink RX0 73 Lib.Math.abs.name, Cond.static Lib.Math.abs.name, Cond.code Lib.Math.abs.name Lib.Math.abs.code 1 (some .int), Cond.fieldLink RX0 9 "UmbrellaVote$City" "spread" "I", Cond.methodLink RX1 65 yX1_opened]
def wsX1_play_r4 : List Cond := [Cond.instanceMethod yX1_opened, Cond.selects RX1 yX1_opened yX1_opened, Cond.code yX1_opened cX1_opened 2 none, Cond.methodLink RX1 69 yX1_become, Cond.instanceMethod yX1_become, Cond.selects RX1 yX1_become yX1_become, Cond.code yX1_become cX1_become 2 none, Cond.methodLink RX1 72 yX1_pass, Cond.instanceMethod yX1_pass, Cond.selects RX1 yX1_pass yX1_pass, Cond.code yX1_pass cX1_pass 3 none, Cond.fieldLink RX1 93 "UmbrellaVote$City" "cotton" "I", Cond.methodLink RX1 75 yX1_breakUmbrella, Cond.instanceMethod yX1_breakUmbrella, Cond.selects RX1 yX1_breakUmbrella yX1_breakUmbrella, Cond.code yX1_breakUmbrella cX1_breakUmbrella 2 none, Cond.methodLink RX1 78 yX1_rain, Cond.instanceMethod yX1_rain, Cond.selects RX1 yX1_rain yX1_rain, Cond.code yX1_rain cX1_rain 2 none, Cond.methodLink RX1 82 yX0_firstOf]
def wsX1_play : List Cond := .code yX1_play cX1_play 7 none :: ((wsX1_play_r1 ++ (wsX1_play_r2 ++ (wsX1_play_r3 ++ wsX1_play_r4))) ++ wsX20 ++ wsX10 ++ wsX00)
def wsX1_yearsOf : List Cond := .code yX1_yearsOf cX1_yearsOf 2 (some .int) :: ([.fieldLink RX1 9 "UmbrellaVote$History" "years" "[I", .static yX4_within, .initialized RX4, .code yX4_within cX4_within 3 (some .boolean)] ++ wsX10)
def wsX2_init : List Cond := .code yX2_init cX2_init 1 none :: ([.methodLink RX2 3 objectInit, .instanceMethod objectInit, .code objectInit ⟨#[0xb1]⟩ 1 none, .arrayClass .int, .fieldLink RX2 9 "UmbrellaVote$Pad" "signs" "[I"] ++ wsX20)
def wsX2_write : List Cond := .code yX2_write cX2_write 2 (some .boolean) :: ([.fieldLink RX2 15 "UmbrellaVote$Pad" "count" "I", .fieldLink RX2 9 "UmbrellaVote$Pad" "signs" "[I", .static yX4_within, .initialized RX4, .code yX4_within cX4_within 3 (some .boolean)] ++ wsX20)
def wsX2_canBegin : List Cond := .code yX2_canBegin cX2_canBegin 1 (some .boolean) :: ([.static yX4_within, .initialized RX4, .code yX4_within cX4_within 3 (some .boolean), .methodLink RX2 23 yX2_takesAnother, .static yX2_takesAnother, .initialized RX2, .code yX2_takesAnother cX2_takesAnother 1 (some .boolean)])
def wsX2_canFollow : List Cond := .code yX2_canFollow cX2_canFollow 2 (some .boolean) :: ([.static yX4_within, .initialized RX4, .code yX4_within cX4_within 3 (some .boolean)])
def wsX2_firstFault : List Cond := .code yX2_firstFault cX2_firstFault 5 (some .int) :: ([.fieldLink RX2 15 "UmbrellaVote$Pad" "count" "I", .methodLink RX2 27 yX2_sign, .instanceMethod yX2_sign, .selects RX2 yX2_sign yX2_sign, .initialized RX2, .code yX2_sign cX2_sign 2 (some .int), .fieldLink RX2 9 "UmbrellaVote$Pad" "signs" "[I", .static yX4_within, .initialized RX4, .code yX4_within cX4_within 3 (some .boolean), .methodLink RX2 31 yX2_canBegin, .static yX2_canBegin, .code yX2_canBegin cX2_canBegin 1 (some .boolean), .methodLink RX2 23 yX2_takesAnother, .static yX2_takesAnother, .code yX2_takesAnother cX2_takesAnother 1 (some .boolean), .methodLink RX2 34 yX2_canFollow, .static yX2_canFollow, .code yX2_canFollow cX2_canFollow 2 (some .boolean)] ++ wsX20)
def wsX2_parts : List Cond := .code yX2_parts cX2_parts 3 (some .int) :: ([.fieldLink RX2 15 "UmbrellaVote$Pad" "count" "I", .methodLink RX2 27 yX2_sign, .instanceMethod yX2_sign, .selects RX2 yX2_sign yX2_sign, .initialized RX2, .code yX2_sign cX2_sign 2 (some .int), .fieldLink RX2 9 "UmbrellaVote$Pad" "signs" "[I", .static yX4_within, .initialized RX4, .code yX4_within cX4_within 3 (some .boolean), .methodLink RX2 23 yX2_takesAnother, .static yX2_takesAnother, .code yX2_takesAnother cX2_takesAnother 1 (some .boolean)] ++ wsX20)
def wsX3_init : List Cond := .code yX3_init cX3_init 1 none :: ([.methodLink RX3 5 objectInit, .instanceMethod objectInit, .code objectInit ⟨#[0xb1]⟩ 1 none, .arrayClass .int, .fieldLink RX3 11 "UmbrellaVote$Resting" "weights" "[I", .fieldLink RX3 17 "UmbrellaVote$Resting" "times" "[I", .fieldLink RX3 20 "UmbrellaVote$Resting" "shares" "[I", .fieldLink RX3 23 "UmbrellaVote$Resting" "greatest" "[I"] ++ wsX30)
def wsX3_pair : List Cond := .code yX3_pair cX3_pair 3 (some .int) :: ([])
def wsX3_fillTimes : List Cond := .code yX3_fillTimes cX3_fillTimes 6 none :: ([.fieldLink RX3 17 "UmbrellaVote$Resting" "times" "[I", .methodLink RX3 72 yX3_pair, .static yX3_pair, .initialized RX3, .code yX3_pair cX3_pair 3 (some .int), .methodLink RX3 76 yX0_openTimeAt, .instanceMethod yX0_openTimeAt, .selects RX0 yX0_openTimeAt yX0_openTimeAt, .initialized RX0, .code yX0_openTimeAt cX0_openTimeAt 5 (some .int), .fieldLink RX0 49 "UmbrellaVote$City" "tables" "I", .fieldLink RX0 15 "UmbrellaVote$City" "shade" "I", .methodLink RX0 73 Lib.Math.abs.name, .static Lib.Math.abs.name, .initialized "java/lang/Math", .code Lib.Math.abs.name Lib.Math.abs.code 1 (some .int), .fieldLink RX0 9 "UmbrellaVote$City" "spread" "I", .static yX4_hasBit, .initialized RX4, .code yX4_hasBit cX4_hasBit 2 (some .boolean)] ++ wsX30 ++ wsX00)
def wsX3_fillSlots_r1 : List Cond := [Cond.fieldLink RX3 17 "UmbrellaVote$Resting" "times" "[I", Cond.constant RX3 53 (2147483647), Cond.fieldLink RX3 45 "UmbrellaVote$Resting" "rows" "I", Cond.fieldLink RX3 58 "UmbrellaVote$City" "holes" "I", Cond.fieldLink RX3 65 "UmbrellaVote$City" "slows" "[I", Cond.methodLink RX3 35 yJ7_fill_53178, Cond.static yJ7_fill_53178, Cond.initialized RJ7, Cond.code yJ7_fill_53178 cJ7_fill_53178 4 none, Cond.methodLink RX3 54 yX0_isThere, Cond.instanceMethod yX0_isThere, Cond.selects RX0 yX0_isThere yX0_isThere, Cond.initialized RX0, Cond.code yX0_isThere cX0_isThere 2 (some .boolean), Cond.fieldLink RX0 40 "UmbrellaVote$City" "there" "I", Cond.static yX4_within, Cond.initialized RX4, Cond.code yX4_within cX4_within 3 (some .boolean), Cond.static yX4_hasBit, Cond.code yX4_hasBit cX4_hasBit 2 (some .boolean), Cond.methodLink RX3 68 yX3_fillTimes, Cond.instanceMethod yX3_fillTimes, Cond.selects RX3 yX3_fillTimes yX3_fillTimes, Cond.initialized RX3]
def wsX3_fillSlots_r2 : List Cond := [Cond.code yX3_fillTimes cX3_fillTimes 6 none, Cond.methodLink RX3 72 yX3_pair, Cond.static yX3_pair, Cond.code yX3_pair cX3_pair 3 (some .int), Cond.methodLink RX3 76 yX0_openTimeAt, Cond.instanceMethod yX0_openTimeAt, Cond.selects RX0 yX0_openTimeAt yX0_openTimeAt, Cond.code yX0_openTimeAt cX0_openTimeAt 5 (some .int), Cond.fieldLink RX0 49 "UmbrellaVote$City" "tables" "I", Cond.fieldLink RX0 15 "UmbrellaVote$City" "shade" "I", Cond.methodLink RX0 73 Lib.Math.abs.name, Cond.static Lib.Math.abs.name, Cond.initialized "java/lang/Math", Cond.code Lib.Math.abs.name Lib.Math.abs.code 1 (some .int), Cond.fieldLink RX0 9 "UmbrellaVote$City" "spread" "I"]
def wsX3_fillSlots : List Cond := .code yX3_fillSlots cX3_fillSlots 4 none :: ((wsX3_fillSlots_r1 ++ wsX3_fillSlots_r2) ++ wsX30 ++ wsX00)
def wsX3_keep : List Cond := .code yX3_keep cX3_keep 4 none :: ([.fieldLink RX3 20 "UmbrellaVote$Resting" "shares" "[I", .fieldLink RX3 23 "UmbrellaVote$Resting" "greatest" "[I", .methodLink RX3 89 Lib.Math.max.name, .static Lib.Math.max.name, .initialized "java/lang/Math", .code Lib.Math.max.name Lib.Math.max.code 2 (some .int)] ++ wsX30)
def wsX3_weighRow : List Cond := .code yX3_weighRow cX3_weighRow 18 none :: ([.fieldLink RX3 17 "UmbrellaVote$Resting" "times" "[I", .methodLink RX3 79 Lib.Math.min.name, .static Lib.Math.min.name, .initialized "java/lang/Math", .code Lib.Math.min.name Lib.Math.min.code 2 (some .int), .constant RX3 53 (2147483647), .fieldLink RX3 11 "UmbrellaVote$Resting" "weights" "[I", .methodLink RX3 72 yX3_pair, .static yX3_pair, .initialized RX3, .code yX3_pair cX3_pair 3 (some .int), .methodLink RX3 85 yX3_keep, .instanceMethod yX3_keep, .selects RX3 yX3_keep yX3_keep, .code yX3_keep cX3_keep 4 none, .fieldLink RX3 20 "UmbrellaVote$Resting" "shares" "[I", .fieldLink RX3 23 "UmbrellaVote$Resting" "greatest" "[I", .methodLink RX3 89 Lib.Math.max.name, .static Lib.Math.max.name, .code Lib.Math.max.name Lib.Math.max.code 2 (some .int)] ++ wsX30)
def wsX3_weigh_r1 : List Cond := [Cond.fieldLink RX3 26 "UmbrellaVote$City" "weights" "[I", Cond.fieldLink RX3 11 "UmbrellaVote$Resting" "weights" "[I", Cond.methodLink RX3 29 arraycopyName, Cond.native arraycopyName, Cond.static arraycopyName, Cond.initialized "java/lang/System", Cond.fieldLink RX3 23 "UmbrellaVote$Resting" "greatest" "[I", Cond.fieldLink RX3 45 "UmbrellaVote$Resting" "rows" "I", Cond.methodLink RX3 35 yJ7_fill_53178, Cond.static yJ7_fill_53178, Cond.initialized RJ7, Cond.code yJ7_fill_53178 cJ7_fill_53178 4 none, Cond.methodLink RX3 41 yX3_fillSlots, Cond.instanceMethod yX3_fillSlots, Cond.selects RX3 yX3_fillSlots yX3_fillSlots, Cond.initialized RX3, Cond.code yX3_fillSlots cX3_fillSlots 4 none, Cond.fieldLink RX3 17 "UmbrellaVote$Resting" "times" "[I", Cond.constant RX3 53 (2147483647), Cond.fieldLink RX3 58 "UmbrellaVote$City" "holes" "I", Cond.fieldLink RX3 65 "UmbrellaVote$City" "slows" "[I", Cond.methodLink RX3 54 yX0_isThere, Cond.instanceMethod yX0_isThere, Cond.selects RX0 yX0_isThere yX0_isThere]
def wsX3_weigh_r2 : List Cond := [Cond.initialized RX0, Cond.code yX0_isThere cX0_isThere 2 (some .boolean), Cond.fieldLink RX0 40 "UmbrellaVote$City" "there" "I", Cond.static yX4_within, Cond.initialized RX4, Cond.code yX4_within cX4_within 3 (some .boolean), Cond.static yX4_hasBit, Cond.code yX4_hasBit cX4_hasBit 2 (some .boolean), Cond.methodLink RX3 68 yX3_fillTimes, Cond.instanceMethod yX3_fillTimes, Cond.selects RX3 yX3_fillTimes yX3_fillTimes, Cond.code yX3_fillTimes cX3_fillTimes 6 none, Cond.methodLink RX3 72 yX3_pair, Cond.static yX3_pair, Cond.code yX3_pair cX3_pair 3 (some .int), Cond.methodLink RX3 76 yX0_openTimeAt, Cond.instanceMethod yX0_openTimeAt, Cond.selects RX0 yX0_openTimeAt yX0_openTimeAt, Cond.code yX0_openTimeAt cX0_openTimeAt 5 (some .int), Cond.fieldLink RX0 49 "UmbrellaVote$City" "tables" "I", Cond.fieldLink RX0 15 "UmbrellaVote$City" "shade" "I", Cond.methodLink RX0 73 Lib.Math.abs.name, Cond.static Lib.Math.abs.name, Cond.initialized "java/lang/Math"]
def wsX3_weigh_r3 : List Cond := [Cond.code Lib.Math.abs.name Lib.Math.abs.code 1 (some .int), Cond.fieldLink RX0 9 "UmbrellaVote$City" "spread" "I", Cond.methodLink RX3 49 yX3_weighRow, Cond.instanceMethod yX3_weighRow, Cond.selects RX3 yX3_weighRow yX3_weighRow, Cond.code yX3_weighRow cX3_weighRow 18 none, Cond.methodLink RX3 79 Lib.Math.min.name, Cond.static Lib.Math.min.name, Cond.code Lib.Math.min.name Lib.Math.min.code 2 (some .int), Cond.methodLink RX3 85 yX3_keep, Cond.instanceMethod yX3_keep, Cond.selects RX3 yX3_keep yX3_keep, Cond.code yX3_keep cX3_keep 4 none, Cond.fieldLink RX3 20 "UmbrellaVote$Resting" "shares" "[I", Cond.methodLink RX3 89 Lib.Math.max.name, Cond.static Lib.Math.max.name, Cond.code Lib.Math.max.name Lib.Math.max.code 2 (some .int)]
def wsX3_weigh : List Cond := .code yX3_weigh cX3_weigh 3 none :: ((wsX3_weigh_r1 ++ (wsX3_weigh_r2 ++ wsX3_weigh_r3)) ++ wsX00 ++ wsX30)
def wsX3_isRest : List Cond := .code yX3_isRest cX3_isRest 5 (some .boolean) :: ([.fieldLink RX3 20 "UmbrellaVote$Resting" "shares" "[I", .fieldLink RX3 23 "UmbrellaVote$Resting" "greatest" "[I", .methodLink RX3 72 yX3_pair, .static yX3_pair, .initialized RX3, .code yX3_pair cX3_pair 3 (some .int)] ++ wsX30)
def wsX3_howMany : List Cond := .code yX3_howMany cX3_howMany 3 (some .int) :: ([.fieldLink RX3 45 "UmbrellaVote$Resting" "rows" "I", .methodLink RX3 92 yX3_isRest, .instanceMethod yX3_isRest, .selects RX3 yX3_isRest yX3_isRest, .initialized RX3, .code yX3_isRest cX3_isRest 5 (some .boolean), .fieldLink RX3 20 "UmbrellaVote$Resting" "shares" "[I", .fieldLink RX3 23 "UmbrellaVote$Resting" "greatest" "[I", .methodLink RX3 72 yX3_pair, .static yX3_pair, .code yX3_pair cX3_pair 3 (some .int)] ++ wsX30)
def wsX3_row : List Cond := .code yX3_row cX3_row 4 (some .int) :: ([.fieldLink RX3 45 "UmbrellaVote$Resting" "rows" "I", .methodLink RX3 92 yX3_isRest, .instanceMethod yX3_isRest, .selects RX3 yX3_isRest yX3_isRest, .initialized RX3, .code yX3_isRest cX3_isRest 5 (some .boolean), .fieldLink RX3 20 "UmbrellaVote$Resting" "shares" "[I", .fieldLink RX3 23 "UmbrellaVote$Resting" "greatest" "[I", .methodLink RX3 72 yX3_pair, .static yX3_pair, .code yX3_pair cX3_pair 3 (some .int)] ++ wsX30)
def wsX4_init_r1 : List Cond := [Cond.methodLink RX4 1 objectInit, Cond.instanceMethod objectInit, Cond.code objectInit ⟨#[0xb1]⟩ 1 none, Cond.classLink RX4 7 RX0, Cond.instantiable RX0 12, Cond.initialized RX0, Cond.fieldLink RX4 10 "UmbrellaVote" "city" "LUmbrellaVote$City;", Cond.fieldLink RX4 16 "UmbrellaVote" "trial" "LUmbrellaVote$City;", Cond.fieldLink RX4 19 "UmbrellaVote" "images" "[LUmbrellaVote$City;", Cond.classLink RX4 23 RX2, Cond.instantiable RX2 2, Cond.initialized RX2, Cond.fieldLink RX4 26 "UmbrellaVote" "pad" "LUmbrellaVote$Pad;", Cond.classLink RX4 30 RX1, Cond.instantiable RX1 5, Cond.initialized RX1, Cond.fieldLink RX4 35 "UmbrellaVote" "history" "LUmbrellaVote$History;", Cond.classLink RX4 39 RX3, Cond.instantiable RX3 5, Cond.initialized RX3, Cond.fieldLink RX4 42 "UmbrellaVote" "resting" "LUmbrellaVote$Resting;", Cond.methodLink RX4 9 yX0_init, Cond.instanceMethod yX0_init, Cond.code yX0_init cX0_init 1 none]
def wsX4_init_r2 : List Cond := [Cond.methodLink RX0 3 objectInit, Cond.fieldLink RX0 9 "UmbrellaVote$City" "spread" "I", Cond.fieldLink RX0 15 "UmbrellaVote$City" "shade" "I", Cond.arrayClass .int, Cond.fieldLink RX0 18 "UmbrellaVote$City" "places" "[I", Cond.fieldLink RX0 22 "UmbrellaVote$City" "slows" "[I", Cond.fieldLink RX0 25 "UmbrellaVote$City" "weights" "[I", Cond.fieldLink RX0 28 "UmbrellaVote$City" "sightHows" "[I", Cond.fieldLink RX0 31 "UmbrellaVote$City" "sightOfs" "[I", Cond.methodLink RX0 34 yJ7_fill_53178, Cond.static yJ7_fill_53178, Cond.initialized RJ7, Cond.code yJ7_fill_53178 cJ7_fill_53178 4 none, Cond.instanceMethod yX2_init, Cond.code yX2_init cX2_init 1 none, Cond.methodLink RX2 3 objectInit, Cond.fieldLink RX2 9 "UmbrellaVote$Pad" "signs" "[I", Cond.methodLink RX4 32 yX1_init, Cond.instanceMethod yX1_init, Cond.code yX1_init cX1_init 2 none, Cond.methodLink RX1 3 objectInit, Cond.fieldLink RX1 9 "UmbrellaVote$History" "years" "[I", Cond.fieldLink RX1 15 "UmbrellaVote$History" "city" "LUmbrellaVote$City;", Cond.instanceMethod yX3_init]
def wsX4_init_r3 : List Cond := [Cond.code yX3_init cX3_init 1 none, Cond.methodLink RX3 5 objectInit, Cond.fieldLink RX3 11 "UmbrellaVote$Resting" "weights" "[I", Cond.fieldLink RX3 17 "UmbrellaVote$Resting" "times" "[I", Cond.fieldLink RX3 20 "UmbrellaVote$Resting" "shares" "[I", Cond.fieldLink RX3 23 "UmbrellaVote$Resting" "greatest" "[I"]
def wsX4_init : List Cond := .code yX4_init cX4_init 1 none :: ((wsX4_init_r1 ++ (wsX4_init_r2 ++ wsX4_init_r3)) ++ wsX00 ++ wsX40 ++ wsX20 ++ wsX10 ++ wsX30)
def wsX4_isPlace : List Cond := .code yX4_isPlace cX4_isPlace 1 (some .boolean) :: ([.methodLink RX4 46 yX4_within, .static yX4_within, .initialized RX4, .code yX4_within cX4_within 3 (some .boolean)])
def wsX4_stand_r1 : List Cond := [Cond.fieldLink RX4 10 "UmbrellaVote" "city" "LUmbrellaVote$City;", Cond.fieldLink RX4 58 "UmbrellaVote$City" "there" "I", Cond.fieldLink RX4 66 "UmbrellaVote$City" "cotton" "I", Cond.fieldLink RX4 69 "UmbrellaVote$City" "holes" "I", Cond.methodLink RX4 46 yX4_within, Cond.static yX4_within, Cond.initialized RX4, Cond.code yX4_within cX4_within 3 (some .boolean), Cond.methodLink RX4 50 yX4_isPlace, Cond.static yX4_isPlace, Cond.code yX4_isPlace cX4_isPlace 1 (some .boolean), Cond.methodLink RX4 54 yX0_put, Cond.instanceMethod yX0_put, Cond.selects RX0 yX0_put yX0_put, Cond.initialized RX0, Cond.code yX0_put cX0_put 4 none, Cond.fieldLink RX0 18 "UmbrellaVote$City" "places" "[I", Cond.fieldLink RX0 22 "UmbrellaVote$City" "slows" "[I", Cond.methodLink RX4 62 yX4_withBit, Cond.static yX4_withBit, Cond.code yX4_withBit cX4_withBit 3 (some .int), Cond.methodLink RX4 72 yJ6_bitCount_0f7a4, Cond.static yJ6_bitCount_0f7a4, Cond.initialized RJ6]
def wsX4_stand_r2 : List Cond := [Cond.code yJ6_bitCount_0f7a4 cJ6_bitCount_0f7a4 1 (some .int), Cond.constant RJ6 265 (1431655765), Cond.constant RJ6 266 (858993459), Cond.constant RJ6 267 (252645135)]
def wsX4_stand : List Cond := .code yX4_stand cX4_stand 6 (some .int) :: ((wsX4_stand_r1 ++ wsX4_stand_r2) ++ wsX40 ++ wsX00)
def wsX4_leave : List Cond := .code yX4_leave cX4_leave 2 (some .int) :: ([.fieldLink RX4 10 "UmbrellaVote" "city" "LUmbrellaVote$City;", .fieldLink RX4 58 "UmbrellaVote$City" "there" "I", .methodLink RX4 78 yX0_isThere, .instanceMethod yX0_isThere, .selects RX0 yX0_isThere yX0_isThere, .initialized RX0, .code yX0_isThere cX0_isThere 2 (some .boolean), .fieldLink RX0 40 "UmbrellaVote$City" "there" "I", .static yX4_within, .initialized RX4, .code yX4_within cX4_within 3 (some .boolean), .static yX4_hasBit, .code yX4_hasBit cX4_hasBit 2 (some .boolean), .methodLink RX4 62 yX4_withBit, .static yX4_withBit, .code yX4_withBit cX4_withBit 3 (some .int), .methodLink RX4 72 yJ6_bitCount_0f7a4, .static yJ6_bitCount_0f7a4, .initialized RJ6, .code yJ6_bitCount_0f7a4 cJ6_bitCount_0f7a4 1 (some .int), .constant RJ6 265 (1431655765), .constant RJ6 266 (858993459), .constant RJ6 267 (252645135)] ++ wsX40 ++ wsX00)
def wsX4_table : List Cond := .code yX4_table cX4_table 3 (some .int) :: ([.fieldLink RX4 10 "UmbrellaVote" "city" "LUmbrellaVote$City;", .fieldLink RX4 81 "UmbrellaVote$City" "tables" "I", .methodLink RX4 50 yX4_isPlace, .static yX4_isPlace, .initialized RX4, .code yX4_isPlace cX4_isPlace 1 (some .boolean), .methodLink RX4 46 yX4_within, .static yX4_within, .code yX4_within cX4_within 3 (some .boolean), .methodLink RX4 62 yX4_withBit, .static yX4_withBit, .code yX4_withBit cX4_withBit 3 (some .int)] ++ wsX40 ++ wsX00)
def wsX4_set : List Cond := .code yX4_set cX4_set 4 (some .int) :: ([.fieldLink RX4 10 "UmbrellaVote" "city" "LUmbrellaVote$City;", .fieldLink RX4 84 "UmbrellaVote$City" "spread" "I", .fieldLink RX4 87 "UmbrellaVote$City" "shade" "I", .methodLink RX4 46 yX4_within, .static yX4_within, .initialized RX4, .code yX4_within cX4_within 3 (some .boolean)] ++ wsX40 ++ wsX00)
def wsX4_say : List Cond := .code yX4_say cX4_say 2 (some .int) :: ([.fieldLink RX4 26 "UmbrellaVote" "pad" "LUmbrellaVote$Pad;", .fieldLink RX4 93 "UmbrellaVote$Pad" "count" "I", .methodLink RX4 46 yX4_within, .static yX4_within, .initialized RX4, .code yX4_within cX4_within 3 (some .boolean), .methodLink RX4 90 yX2_write, .instanceMethod yX2_write, .selects RX2 yX2_write yX2_write, .initialized RX2, .code yX2_write cX2_write 2 (some .boolean), .fieldLink RX2 15 "UmbrellaVote$Pad" "count" "I", .fieldLink RX2 9 "UmbrellaVote$Pad" "signs" "[I"] ++ wsX40 ++ wsX20)
def wsX4_wipe : List Cond := .code yX4_wipe cX4_wipe 2 (some .int) :: ([.fieldLink RX4 26 "UmbrellaVote" "pad" "LUmbrellaVote$Pad;", .fieldLink RX4 93 "UmbrellaVote$Pad" "count" "I"] ++ wsX40 ++ wsX20)
def wsX4_fault : List Cond := .code yX4_fault cX4_fault 1 (some .int) :: ([.fieldLink RX4 26 "UmbrellaVote" "pad" "LUmbrellaVote$Pad;", .methodLink RX4 96 yX2_firstFault, .instanceMethod yX2_firstFault, .selects RX2 yX2_firstFault yX2_firstFault, .initialized RX2, .code yX2_firstFault cX2_firstFault 5 (some .int), .fieldLink RX2 15 "UmbrellaVote$Pad" "count" "I", .methodLink RX2 27 yX2_sign, .instanceMethod yX2_sign, .selects RX2 yX2_sign yX2_sign, .code yX2_sign cX2_sign 2 (some .int), .fieldLink RX2 9 "UmbrellaVote$Pad" "signs" "[I", .static yX4_within, .initialized RX4, .code yX4_within cX4_within 3 (some .boolean), .methodLink RX2 31 yX2_canBegin, .static yX2_canBegin, .code yX2_canBegin cX2_canBegin 1 (some .boolean), .methodLink RX2 23 yX2_takesAnother, .static yX2_takesAnother, .code yX2_takesAnother cX2_takesAnother 1 (some .boolean), .methodLink RX2 34 yX2_canFollow, .static yX2_canFollow, .code yX2_canFollow cX2_canFollow 2 (some .boolean)] ++ wsX40 ++ wsX20)
def wsX4_firstPerson : List Cond := .code yX4_firstPerson cX4_firstPerson 2 (some .int) :: ([.methodLink RX4 110 yX4_hasBit, .static yX4_hasBit, .initialized RX4, .code yX4_hasBit cX4_hasBit 2 (some .boolean)])
def wsX4_rules_r1 : List Cond := [Cond.fieldLink RX4 10 "UmbrellaVote" "city" "LUmbrellaVote$City;", Cond.methodLink RX4 50 yX4_isPlace, Cond.static yX4_isPlace, Cond.initialized RX4, Cond.code yX4_isPlace cX4_isPlace 1 (some .boolean), Cond.methodLink RX4 46 yX4_within, Cond.static yX4_within, Cond.code yX4_within cX4_within 3 (some .boolean), Cond.methodLink RX4 100 yX0_rulers, Cond.instanceMethod yX0_rulers, Cond.selects RX0 yX0_rulers yX0_rulers, Cond.initialized RX0, Cond.code yX0_rulers cX0_rulers 2 (some .int), Cond.methodLink RX0 86 yX0_umbrellas, Cond.instanceMethod yX0_umbrellas, Cond.selects RX0 yX0_umbrellas yX0_umbrellas, Cond.code yX0_umbrellas cX0_umbrellas 1 (some .int), Cond.fieldLink RX0 40 "UmbrellaVote$City" "there" "I", Cond.fieldLink RX0 43 "UmbrellaVote$City" "holes" "I", Cond.methodLink RX0 90 yX0_firstOf, Cond.instanceMethod yX0_firstOf, Cond.selects RX0 yX0_firstOf yX0_firstOf, Cond.code yX0_firstOf cX0_firstOf 7 (some .int), Cond.constant RX0 81 (2147483647)]
def wsX4_rules_r2 : List Cond := [Cond.fieldLink RX0 18 "UmbrellaVote$City" "places" "[I", Cond.fieldLink RX0 22 "UmbrellaVote$City" "slows" "[I", Cond.methodLink RX0 82 Lib.Math.min.name, Cond.static Lib.Math.min.name, Cond.initialized "java/lang/Math", Cond.code Lib.Math.min.name Lib.Math.min.code 2 (some .int), Cond.static yX4_hasBit, Cond.code yX4_hasBit cX4_hasBit 2 (some .boolean), Cond.methodLink RX0 69 yX0_openTimeAt, Cond.instanceMethod yX0_openTimeAt, Cond.selects RX0 yX0_openTimeAt yX0_openTimeAt, Cond.code yX0_openTimeAt cX0_openTimeAt 5 (some .int), Cond.fieldLink RX0 49 "UmbrellaVote$City" "tables" "I", Cond.fieldLink RX0 15 "UmbrellaVote$City" "shade" "I", Cond.methodLink RX0 73 Lib.Math.abs.name, Cond.static Lib.Math.abs.name, Cond.code Lib.Math.abs.name Lib.Math.abs.code 1 (some .int), Cond.fieldLink RX0 9 "UmbrellaVote$City" "spread" "I", Cond.methodLink RX4 103 yX4_firstPerson, Cond.static yX4_firstPerson, Cond.code yX4_firstPerson cX4_firstPerson 2 (some .int), Cond.methodLink RX4 110 yX4_hasBit, Cond.methodLink RX4 106 yX0_openTime, Cond.instanceMethod yX0_openTime]
def wsX4_rules_r3 : List Cond := [Cond.selects RX0 yX0_openTime yX0_openTime, Cond.code yX0_openTime cX0_openTime 3 (some .int)]
def wsX4_rules : List Cond := .code yX4_rules cX4_rules 4 (some .int) :: ((wsX4_rules_r1 ++ (wsX4_rules_r2 ++ wsX4_rules_r3)) ++ wsX40 ++ wsX00)
def wsX4_opens_r1 : List Cond := [Cond.fieldLink RX4 10 "UmbrellaVote" "city" "LUmbrellaVote$City;", Cond.fieldLink RX4 69 "UmbrellaVote$City" "holes" "I", Cond.methodLink RX4 78 yX0_isThere, Cond.instanceMethod yX0_isThere, Cond.selects RX0 yX0_isThere yX0_isThere, Cond.initialized RX0, Cond.code yX0_isThere cX0_isThere 2 (some .boolean), Cond.fieldLink RX0 40 "UmbrellaVote$City" "there" "I", Cond.static yX4_within, Cond.initialized RX4, Cond.code yX4_within cX4_within 3 (some .boolean), Cond.static yX4_hasBit, Cond.code yX4_hasBit cX4_hasBit 2 (some .boolean), Cond.methodLink RX4 50 yX4_isPlace, Cond.static yX4_isPlace, Cond.code yX4_isPlace cX4_isPlace 1 (some .boolean), Cond.methodLink RX4 46 yX4_within, Cond.methodLink RX4 110 yX4_hasBit, Cond.methodLink RX4 106 yX0_openTime, Cond.instanceMethod yX0_openTime, Cond.selects RX0 yX0_openTime yX0_openTime, Cond.code yX0_openTime cX0_openTime 3 (some .int), Cond.fieldLink RX0 18 "UmbrellaVote$City" "places" "[I", Cond.fieldLink RX0 22 "UmbrellaVote$City" "slows" "[I"]
def wsX4_opens_r2 : List Cond := [Cond.methodLink RX0 69 yX0_openTimeAt, Cond.instanceMethod yX0_openTimeAt, Cond.selects RX0 yX0_openTimeAt yX0_openTimeAt, Cond.code yX0_openTimeAt cX0_openTimeAt 5 (some .int), Cond.fieldLink RX0 49 "UmbrellaVote$City" "tables" "I", Cond.fieldLink RX0 15 "UmbrellaVote$City" "shade" "I", Cond.methodLink RX0 73 Lib.Math.abs.name, Cond.static Lib.Math.abs.name, Cond.initialized "java/lang/Math", Cond.code Lib.Math.abs.name Lib.Math.abs.code 1 (some .int), Cond.fieldLink RX0 9 "UmbrellaVote$City" "spread" "I"]
def wsX4_opens : List Cond := .code yX4_opens cX4_opens 3 (some .int) :: ((wsX4_opens_r1 ++ wsX4_opens_r2) ++ wsX40 ++ wsX00)
def wsX4_never_r1 : List Cond := [Cond.fieldLink RX4 10 "UmbrellaVote" "city" "LUmbrellaVote$City;", Cond.fieldLink RX4 58 "UmbrellaVote$City" "there" "I", Cond.methodLink RX4 100 yX0_rulers, Cond.instanceMethod yX0_rulers, Cond.selects RX0 yX0_rulers yX0_rulers, Cond.initialized RX0, Cond.code yX0_rulers cX0_rulers 2 (some .int), Cond.methodLink RX0 86 yX0_umbrellas, Cond.instanceMethod yX0_umbrellas, Cond.selects RX0 yX0_umbrellas yX0_umbrellas, Cond.code yX0_umbrellas cX0_umbrellas 1 (some .int), Cond.fieldLink RX0 40 "UmbrellaVote$City" "there" "I", Cond.fieldLink RX0 43 "UmbrellaVote$City" "holes" "I", Cond.methodLink RX0 90 yX0_firstOf, Cond.instanceMethod yX0_firstOf, Cond.selects RX0 yX0_firstOf yX0_firstOf, Cond.code yX0_firstOf cX0_firstOf 7 (some .int), Cond.constant RX0 81 (2147483647), Cond.fieldLink RX0 18 "UmbrellaVote$City" "places" "[I", Cond.fieldLink RX0 22 "UmbrellaVote$City" "slows" "[I", Cond.methodLink RX0 82 Lib.Math.min.name, Cond.static Lib.Math.min.name, Cond.initialized "java/lang/Math", Cond.code Lib.Math.min.name Lib.Math.min.code 2 (some .int)]
def wsX4_never_r2 : List Cond := [Cond.static yX4_hasBit, Cond.initialized RX4, Cond.code yX4_hasBit cX4_hasBit 2 (some .boolean), Cond.methodLink RX0 69 yX0_openTimeAt, Cond.instanceMethod yX0_openTimeAt, Cond.selects RX0 yX0_openTimeAt yX0_openTimeAt, Cond.code yX0_openTimeAt cX0_openTimeAt 5 (some .int), Cond.fieldLink RX0 49 "UmbrellaVote$City" "tables" "I", Cond.fieldLink RX0 15 "UmbrellaVote$City" "shade" "I", Cond.methodLink RX0 73 Lib.Math.abs.name, Cond.static Lib.Math.abs.name, Cond.code Lib.Math.abs.name Lib.Math.abs.code 1 (some .int), Cond.fieldLink RX0 9 "UmbrellaVote$City" "spread" "I"]
def wsX4_never : List Cond := .code yX4_never cX4_never 3 (some .int) :: ((wsX4_never_r1 ++ wsX4_never_r2) ++ wsX40 ++ wsX00)
def wsX4_reign_r1 : List Cond := [Cond.fieldLink RX4 26 "UmbrellaVote" "pad" "LUmbrellaVote$Pad;", Cond.fieldLink RX4 35 "UmbrellaVote" "history" "LUmbrellaVote$History;", Cond.fieldLink RX4 121 "UmbrellaVote$History" "ruling" "I", Cond.methodLink RX4 96 yX2_firstFault, Cond.instanceMethod yX2_firstFault, Cond.selects RX2 yX2_firstFault yX2_firstFault, Cond.initialized RX2, Cond.code yX2_firstFault cX2_firstFault 5 (some .int), Cond.fieldLink RX2 15 "UmbrellaVote$Pad" "count" "I", Cond.methodLink RX2 27 yX2_sign, Cond.instanceMethod yX2_sign, Cond.selects RX2 yX2_sign yX2_sign, Cond.code yX2_sign cX2_sign 2 (some .int), Cond.fieldLink RX2 9 "UmbrellaVote$Pad" "signs" "[I", Cond.static yX4_within, Cond.initialized RX4, Cond.code yX4_within cX4_within 3 (some .boolean), Cond.methodLink RX2 31 yX2_canBegin, Cond.static yX2_canBegin, Cond.code yX2_canBegin cX2_canBegin 1 (some .boolean), Cond.methodLink RX2 23 yX2_takesAnother, Cond.static yX2_takesAnother, Cond.code yX2_takesAnother cX2_takesAnother 1 (some .boolean), Cond.methodLink RX2 34 yX2_canFollow]
def wsX4_reign_r2 : List Cond := [Cond.static yX2_canFollow, Cond.code yX2_canFollow cX2_canFollow 2 (some .boolean), Cond.methodLink RX4 114 yX2_parts, Cond.instanceMethod yX2_parts, Cond.selects RX2 yX2_parts yX2_parts, Cond.code yX2_parts cX2_parts 3 (some .int), Cond.methodLink RX4 46 yX4_within, Cond.methodLink RX4 117 yX1_play, Cond.instanceMethod yX1_play, Cond.selects RX1 yX1_play yX1_play, Cond.initialized RX1, Cond.code yX1_play cX1_play 7 none, Cond.fieldLink RX1 38 "UmbrellaVote$Pad" "count" "I", Cond.methodLink RX1 35 yX1_begin, Cond.instanceMethod yX1_begin, Cond.selects RX1 yX1_begin yX1_begin, Cond.code yX1_begin cX1_begin 1 none, Cond.fieldLink RX1 19 "UmbrellaVote$History" "ruling" "I", Cond.fieldLink RX1 23 "UmbrellaVote$History" "broken" "I", Cond.fieldLink RX1 26 "UmbrellaVote$History" "reigns" "I", Cond.fieldLink RX1 9 "UmbrellaVote$History" "years" "[I", Cond.methodLink RX1 29 yJ7_fill_53178, Cond.static yJ7_fill_53178, Cond.initialized RJ7]
def wsX4_reign_r3 : List Cond := [Cond.code yJ7_fill_53178 cJ7_fill_53178 4 none, Cond.methodLink RX1 43 yX2_sign, Cond.methodLink RX1 47 yX2_takesAnother, Cond.methodLink RX1 51 yX1_happen, Cond.instanceMethod yX1_happen, Cond.selects RX1 yX1_happen yX1_happen, Cond.code yX1_happen cX1_happen 3 none, Cond.fieldLink RX1 15 "UmbrellaVote$History" "city" "LUmbrellaVote$City;", Cond.methodLink RX1 55 yX1_umbrellas, Cond.instanceMethod yX1_umbrellas, Cond.selects RX1 yX1_umbrellas yX1_umbrellas, Cond.code yX1_umbrellas cX1_umbrellas 1 (some .int), Cond.methodLink RX1 81 yX0_umbrellas, Cond.instanceMethod yX0_umbrellas, Cond.selects RX0 yX0_umbrellas yX0_umbrellas, Cond.initialized RX0, Cond.code yX0_umbrellas cX0_umbrellas 1 (some .int), Cond.fieldLink RX0 40 "UmbrellaVote$City" "there" "I", Cond.fieldLink RX0 43 "UmbrellaVote$City" "holes" "I", Cond.methodLink RX1 59 yX0_sprinkled, Cond.instanceMethod yX0_sprinkled, Cond.selects RX0 yX0_sprinkled yX0_sprinkled, Cond.code yX0_sprinkled cX0_sprinkled 5 (some .int), Cond.fieldLink RX0 18 "UmbrellaVote$City" "places" "[I"]
def wsX4_reign_r4 : List Cond := [Cond.static yX4_withBit, Cond.code yX4_withBit cX4_withBit 3 (some .int), Cond.methodLink RX0 90 yX0_firstOf, Cond.instanceMethod yX0_firstOf, Cond.selects RX0 yX0_firstOf yX0_firstOf, Cond.code yX0_firstOf cX0_firstOf 7 (some .int), Cond.constant RX0 81 (2147483647), Cond.fieldLink RX0 22 "UmbrellaVote$City" "slows" "[I", Cond.methodLink RX0 82 Lib.Math.min.name, Cond.static Lib.Math.min.name, Cond.initialized "java/lang/Math", Cond.code Lib.Math.min.name Lib.Math.min.code 2 (some .int), Cond.static yX4_hasBit, Cond.code yX4_hasBit cX4_hasBit 2 (some .boolean), Cond.methodLink RX0 69 yX0_openTimeAt, Cond.instanceMethod yX0_openTimeAt, Cond.selects RX0 yX0_openTimeAt yX0_openTimeAt, Cond.code yX0_openTimeAt cX0_openTimeAt 5 (some .int), Cond.fieldLink RX0 49 "UmbrellaVote$City" "tables" "I", Cond.fieldLink RX0 15 "UmbrellaVote$City" "shade" "I", Cond.methodLink RX0 73 Lib.Math.abs.name, Cond.static Lib.Math.abs.name, Cond.code Lib.Math.abs.name Lib.Math.abs.code 1 (some .int), Cond.fieldLink RX0 9 "UmbrellaVote$City" "spread" "I"]
def wsX4_reign_r5 : List Cond := [Cond.methodLink RX1 65 yX1_opened, Cond.instanceMethod yX1_opened, Cond.selects RX1 yX1_opened yX1_opened, Cond.code yX1_opened cX1_opened 2 none, Cond.methodLink RX1 69 yX1_become, Cond.instanceMethod yX1_become, Cond.selects RX1 yX1_become yX1_become, Cond.code yX1_become cX1_become 2 none, Cond.methodLink RX1 72 yX1_pass, Cond.instanceMethod yX1_pass, Cond.selects RX1 yX1_pass yX1_pass, Cond.code yX1_pass cX1_pass 3 none, Cond.fieldLink RX1 93 "UmbrellaVote$City" "cotton" "I", Cond.methodLink RX1 75 yX1_breakUmbrella, Cond.instanceMethod yX1_breakUmbrella, Cond.selects RX1 yX1_breakUmbrella yX1_breakUmbrella, Cond.code yX1_breakUmbrella cX1_breakUmbrella 2 none, Cond.methodLink RX1 78 yX1_rain, Cond.instanceMethod yX1_rain, Cond.selects RX1 yX1_rain yX1_rain, Cond.code yX1_rain cX1_rain 2 none, Cond.methodLink RX1 82 yX0_firstOf]
def wsX4_reign : List Cond := .code yX4_reign cX4_reign 3 (some .int) :: ((wsX4_reign_r1 ++ (wsX4_reign_r2 ++ (wsX4_reign_r3 ++ (wsX4_reign_r4 ++ wsX4_reign_r5)))) ++ wsX40 ++ wsX10 ++ wsX20 ++ wsX00)
def wsX4_years_r1 : List Cond := [Cond.fieldLink RX4 26 "UmbrellaVote" "pad" "LUmbrellaVote$Pad;", Cond.fieldLink RX4 35 "UmbrellaVote" "history" "LUmbrellaVote$History;", Cond.fieldLink RX4 124 "UmbrellaVote$History" "reigns" "I", Cond.methodLink RX4 96 yX2_firstFault, Cond.instanceMethod yX2_firstFault, Cond.selects RX2 yX2_firstFault yX2_firstFault, Cond.initialized RX2, Cond.code yX2_firstFault cX2_firstFault 5 (some .int), Cond.fieldLink RX2 15 "UmbrellaVote$Pad" "count" "I", Cond.methodLink RX2 27 yX2_sign, Cond.instanceMethod yX2_sign, Cond.selects RX2 yX2_sign yX2_sign, Cond.code yX2_sign cX2_sign 2 (some .int), Cond.fieldLink RX2 9 "UmbrellaVote$Pad" "signs" "[I", Cond.static yX4_within, Cond.initialized RX4, Cond.code yX4_within cX4_within 3 (some .boolean), Cond.methodLink RX2 31 yX2_canBegin, Cond.static yX2_canBegin, Cond.code yX2_canBegin cX2_canBegin 1 (some .boolean), Cond.methodLink RX2 23 yX2_takesAnother, Cond.static yX2_takesAnother, Cond.code yX2_takesAnother cX2_takesAnother 1 (some .boolean), Cond.methodLink RX2 34 yX2_canFollow]
def wsX4_years_r2 : List Cond := [Cond.static yX2_canFollow, Cond.code yX2_canFollow cX2_canFollow 2 (some .boolean), Cond.methodLink RX4 46 yX4_within, Cond.methodLink RX4 114 yX2_parts, Cond.instanceMethod yX2_parts, Cond.selects RX2 yX2_parts yX2_parts, Cond.code yX2_parts cX2_parts 3 (some .int), Cond.methodLink RX4 117 yX1_play, Cond.instanceMethod yX1_play, Cond.selects RX1 yX1_play yX1_play, Cond.initialized RX1, Cond.code yX1_play cX1_play 7 none, Cond.fieldLink RX1 38 "UmbrellaVote$Pad" "count" "I", Cond.methodLink RX1 35 yX1_begin, Cond.instanceMethod yX1_begin, Cond.selects RX1 yX1_begin yX1_begin, Cond.code yX1_begin cX1_begin 1 none, Cond.fieldLink RX1 19 "UmbrellaVote$History" "ruling" "I", Cond.fieldLink RX1 23 "UmbrellaVote$History" "broken" "I", Cond.fieldLink RX1 26 "UmbrellaVote$History" "reigns" "I", Cond.fieldLink RX1 9 "UmbrellaVote$History" "years" "[I", Cond.methodLink RX1 29 yJ7_fill_53178, Cond.static yJ7_fill_53178, Cond.initialized RJ7]
def wsX4_years_r3 : List Cond := [Cond.code yJ7_fill_53178 cJ7_fill_53178 4 none, Cond.methodLink RX1 43 yX2_sign, Cond.methodLink RX1 47 yX2_takesAnother, Cond.methodLink RX1 51 yX1_happen, Cond.instanceMethod yX1_happen, Cond.selects RX1 yX1_happen yX1_happen, Cond.code yX1_happen cX1_happen 3 none, Cond.fieldLink RX1 15 "UmbrellaVote$History" "city" "LUmbrellaVote$City;", Cond.methodLink RX1 55 yX1_umbrellas, Cond.instanceMethod yX1_umbrellas, Cond.selects RX1 yX1_umbrellas yX1_umbrellas, Cond.code yX1_umbrellas cX1_umbrellas 1 (some .int), Cond.methodLink RX1 81 yX0_umbrellas, Cond.instanceMethod yX0_umbrellas, Cond.selects RX0 yX0_umbrellas yX0_umbrellas, Cond.initialized RX0, Cond.code yX0_umbrellas cX0_umbrellas 1 (some .int), Cond.fieldLink RX0 40 "UmbrellaVote$City" "there" "I", Cond.fieldLink RX0 43 "UmbrellaVote$City" "holes" "I", Cond.methodLink RX1 59 yX0_sprinkled, Cond.instanceMethod yX0_sprinkled, Cond.selects RX0 yX0_sprinkled yX0_sprinkled, Cond.code yX0_sprinkled cX0_sprinkled 5 (some .int), Cond.fieldLink RX0 18 "UmbrellaVote$City" "places" "[I"]
def wsX4_years_r4 : List Cond := [Cond.static yX4_withBit, Cond.code yX4_withBit cX4_withBit 3 (some .int), Cond.methodLink RX0 90 yX0_firstOf, Cond.instanceMethod yX0_firstOf, Cond.selects RX0 yX0_firstOf yX0_firstOf, Cond.code yX0_firstOf cX0_firstOf 7 (some .int), Cond.constant RX0 81 (2147483647), Cond.fieldLink RX0 22 "UmbrellaVote$City" "slows" "[I", Cond.methodLink RX0 82 Lib.Math.min.name, Cond.static Lib.Math.min.name, Cond.initialized "java/lang/Math", Cond.code Lib.Math.min.name Lib.Math.min.code 2 (some .int), Cond.static yX4_hasBit, Cond.code yX4_hasBit cX4_hasBit 2 (some .boolean), Cond.methodLink RX0 69 yX0_openTimeAt, Cond.instanceMethod yX0_openTimeAt, Cond.selects RX0 yX0_openTimeAt yX0_openTimeAt, Cond.code yX0_openTimeAt cX0_openTimeAt 5 (some .int), Cond.fieldLink RX0 49 "UmbrellaVote$City" "tables" "I", Cond.fieldLink RX0 15 "UmbrellaVote$City" "shade" "I", Cond.methodLink RX0 73 Lib.Math.abs.name, Cond.static Lib.Math.abs.name, Cond.code Lib.Math.abs.name Lib.Math.abs.code 1 (some .int), Cond.fieldLink RX0 9 "UmbrellaVote$City" "spread" "I"]
def wsX4_years_r5 : List Cond := [Cond.methodLink RX1 65 yX1_opened, Cond.instanceMethod yX1_opened, Cond.selects RX1 yX1_opened yX1_opened, Cond.code yX1_opened cX1_opened 2 none, Cond.methodLink RX1 69 yX1_become, Cond.instanceMethod yX1_become, Cond.selects RX1 yX1_become yX1_become, Cond.code yX1_become cX1_become 2 none, Cond.methodLink RX1 72 yX1_pass, Cond.instanceMethod yX1_pass, Cond.selects RX1 yX1_pass yX1_pass, Cond.code yX1_pass cX1_pass 3 none, Cond.fieldLink RX1 93 "UmbrellaVote$City" "cotton" "I", Cond.methodLink RX1 75 yX1_breakUmbrella, Cond.instanceMethod yX1_breakUmbrella, Cond.selects RX1 yX1_breakUmbrella yX1_breakUmbrella, Cond.code yX1_breakUmbrella cX1_breakUmbrella 2 none, Cond.methodLink RX1 78 yX1_rain, Cond.instanceMethod yX1_rain, Cond.selects RX1 yX1_rain yX1_rain, Cond.code yX1_rain cX1_rain 2 none, Cond.methodLink RX1 82 yX0_firstOf, Cond.methodLink RX4 127 yX1_yearsOf, Cond.instanceMethod yX1_yearsOf]
def wsX4_years_r6 : List Cond := [Cond.selects RX1 yX1_yearsOf yX1_yearsOf, Cond.code yX1_yearsOf cX1_yearsOf 2 (some .int)]
def wsX4_years : List Cond := .code yX4_years cX4_years 2 (some .int) :: ((wsX4_years_r1 ++ (wsX4_years_r2 ++ (wsX4_years_r3 ++ (wsX4_years_r4 ++ (wsX4_years_r5 ++ wsX4_years_r6))))) ++ wsX40 ++ wsX10 ++ wsX20 ++ wsX00)
def wsX4_weight : List Cond := .code yX4_weight cX4_weight 4 (some .int) :: ([.fieldLink RX4 10 "UmbrellaVote" "city" "LUmbrellaVote$City;", .fieldLink RX4 130 "UmbrellaVote$City" "weights" "[I", .methodLink RX4 50 yX4_isPlace, .static yX4_isPlace, .initialized RX4, .code yX4_isPlace cX4_isPlace 1 (some .boolean), .methodLink RX4 46 yX4_within, .static yX4_within, .code yX4_within cX4_within 3 (some .boolean), .methodLink RX4 134 yX0_allWeights, .instanceMethod yX0_allWeights, .selects RX0 yX0_allWeights yX0_allWeights, .initialized RX0, .code yX0_allWeights cX0_allWeights 3 (some .int), .fieldLink RX0 25 "UmbrellaVote$City" "weights" "[I"] ++ wsX40 ++ wsX00)
def wsX4_commonDivisor : List Cond := .code yX4_commonDivisor cX4_commonDivisor 6 (some .int) :: ([])
def wsX4_fraction : List Cond := .code yX4_fraction cX4_fraction 4 (some .long) :: ([.methodLink RX4 205 yX4_commonDivisor, .static yX4_commonDivisor, .initialized RX4, .code yX4_commonDivisor cX4_commonDivisor 6 (some .int)])
def wsX4_chance_r1 : List Cond := [Cond.fieldLink RX4 10 "UmbrellaVote" "city" "LUmbrellaVote$City;", Cond.constantLong RX4 137 (-1000000000000000001), Cond.constantLong RX4 139 (-1000000000000000002), Cond.fieldLink RX4 66 "UmbrellaVote$City" "cotton" "I", Cond.methodLink RX4 78 yX0_isThere, Cond.instanceMethod yX0_isThere, Cond.selects RX0 yX0_isThere yX0_isThere, Cond.initialized RX0, Cond.code yX0_isThere cX0_isThere 2 (some .boolean), Cond.fieldLink RX0 40 "UmbrellaVote$City" "there" "I", Cond.static yX4_within, Cond.initialized RX4, Cond.code yX4_within cX4_within 3 (some .boolean), Cond.static yX4_hasBit, Cond.code yX4_hasBit cX4_hasBit 2 (some .boolean), Cond.methodLink RX4 46 yX4_within, Cond.methodLink RX4 141 yX0_shareOf, Cond.instanceMethod yX0_shareOf, Cond.selects RX0 yX0_shareOf yX0_shareOf, Cond.code yX0_shareOf cX0_shareOf 6 (some .int), Cond.fieldLink RX0 25 "UmbrellaVote$City" "weights" "[I", Cond.methodLink RX0 86 yX0_umbrellas, Cond.instanceMethod yX0_umbrellas, Cond.selects RX0 yX0_umbrellas yX0_umbrellas]
def wsX4_chance_r2 : List Cond := [Cond.code yX0_umbrellas cX0_umbrellas 1 (some .int), Cond.fieldLink RX0 43 "UmbrellaVote$City" "holes" "I", Cond.methodLink RX0 90 yX0_firstOf, Cond.instanceMethod yX0_firstOf, Cond.selects RX0 yX0_firstOf yX0_firstOf, Cond.code yX0_firstOf cX0_firstOf 7 (some .int), Cond.constant RX0 81 (2147483647), Cond.fieldLink RX0 18 "UmbrellaVote$City" "places" "[I", Cond.fieldLink RX0 22 "UmbrellaVote$City" "slows" "[I", Cond.methodLink RX0 82 Lib.Math.min.name, Cond.static Lib.Math.min.name, Cond.initialized "java/lang/Math", Cond.code Lib.Math.min.name Lib.Math.min.code 2 (some .int), Cond.methodLink RX0 69 yX0_openTimeAt, Cond.instanceMethod yX0_openTimeAt, Cond.selects RX0 yX0_openTimeAt yX0_openTimeAt, Cond.code yX0_openTimeAt cX0_openTimeAt 5 (some .int), Cond.fieldLink RX0 49 "UmbrellaVote$City" "tables" "I", Cond.fieldLink RX0 15 "UmbrellaVote$City" "shade" "I", Cond.methodLink RX0 73 Lib.Math.abs.name, Cond.static Lib.Math.abs.name, Cond.code Lib.Math.abs.name Lib.Math.abs.code 1 (some .int), Cond.fieldLink RX0 9 "UmbrellaVote$City" "spread" "I", Cond.methodLink RX0 100 yJ6_bitCount_0f7a4]
def wsX4_chance_r3 : List Cond := [Cond.static yJ6_bitCount_0f7a4, Cond.initialized RJ6, Cond.code yJ6_bitCount_0f7a4 cJ6_bitCount_0f7a4 1 (some .int), Cond.constant RJ6 265 (1431655765), Cond.constant RJ6 266 (858993459), Cond.constant RJ6 267 (252645135), Cond.methodLink RX4 144 yX0_allShares, Cond.instanceMethod yX0_allShares, Cond.selects RX0 yX0_allShares yX0_allShares, Cond.code yX0_allShares cX0_allShares 1 (some .int), Cond.methodLink RX0 97 yX0_allWeights, Cond.instanceMethod yX0_allWeights, Cond.selects RX0 yX0_allWeights yX0_allWeights, Cond.code yX0_allWeights cX0_allWeights 3 (some .int), Cond.methodLink RX4 147 yX4_fraction, Cond.static yX4_fraction, Cond.code yX4_fraction cX4_fraction 4 (some .long), Cond.methodLink RX4 205 yX4_commonDivisor, Cond.static yX4_commonDivisor, Cond.code yX4_commonDivisor cX4_commonDivisor 6 (some .int)]
def wsX4_chance : List Cond := .code yX4_chance cX4_chance 4 (some .long) :: ((wsX4_chance_r1 ++ (wsX4_chance_r2 ++ wsX4_chance_r3)) ++ wsX40 ++ wsX00)
def wsX4_trialShare_r1 : List Cond := [Cond.fieldLink RX4 16 "UmbrellaVote" "trial" "LUmbrellaVote$City;", Cond.fieldLink RX4 10 "UmbrellaVote" "city" "LUmbrellaVote$City;", Cond.methodLink RX4 179 yX0_copyFrom, Cond.instanceMethod yX0_copyFrom, Cond.selects RX0 yX0_copyFrom yX0_copyFrom, Cond.initialized RX0, Cond.code yX0_copyFrom cX0_copyFrom 2 none, Cond.fieldLink RX0 9 "UmbrellaVote$City" "spread" "I", Cond.fieldLink RX0 15 "UmbrellaVote$City" "shade" "I", Cond.fieldLink RX0 40 "UmbrellaVote$City" "there" "I", Cond.fieldLink RX0 43 "UmbrellaVote$City" "holes" "I", Cond.fieldLink RX0 46 "UmbrellaVote$City" "cotton" "I", Cond.fieldLink RX0 49 "UmbrellaVote$City" "tables" "I", Cond.fieldLink RX0 52 "UmbrellaVote$City" "sights" "I", Cond.fieldLink RX0 18 "UmbrellaVote$City" "places" "[I", Cond.methodLink RX0 55 arraycopyName, Cond.native arraycopyName, Cond.static arraycopyName, Cond.initialized "java/lang/System", Cond.fieldLink RX0 22 "UmbrellaVote$City" "slows" "[I", Cond.fieldLink RX0 25 "UmbrellaVote$City" "weights" "[I", Cond.fieldLink RX0 28 "UmbrellaVote$City" "sightHows" "[I", Cond.fieldLink RX0 31 "UmbrellaVote$City" "sightOfs" "[I", Cond.methodLink RX4 54 yX0_put]
def wsX4_trialShare_r2 : List Cond := [Cond.instanceMethod yX0_put, Cond.selects RX0 yX0_put yX0_put, Cond.code yX0_put cX0_put 4 none, Cond.static yX4_within, Cond.initialized RX4, Cond.code yX4_within cX4_within 3 (some .boolean), Cond.methodLink RX4 141 yX0_shareOf, Cond.instanceMethod yX0_shareOf, Cond.selects RX0 yX0_shareOf yX0_shareOf, Cond.code yX0_shareOf cX0_shareOf 6 (some .int), Cond.methodLink RX0 86 yX0_umbrellas, Cond.instanceMethod yX0_umbrellas, Cond.selects RX0 yX0_umbrellas yX0_umbrellas, Cond.code yX0_umbrellas cX0_umbrellas 1 (some .int), Cond.methodLink RX0 90 yX0_firstOf, Cond.instanceMethod yX0_firstOf, Cond.selects RX0 yX0_firstOf yX0_firstOf, Cond.code yX0_firstOf cX0_firstOf 7 (some .int), Cond.constant RX0 81 (2147483647), Cond.methodLink RX0 82 Lib.Math.min.name, Cond.static Lib.Math.min.name, Cond.initialized "java/lang/Math", Cond.code Lib.Math.min.name Lib.Math.min.code 2 (some .int), Cond.static yX4_hasBit]
def wsX4_trialShare_r3 : List Cond := [Cond.code yX4_hasBit cX4_hasBit 2 (some .boolean), Cond.methodLink RX0 69 yX0_openTimeAt, Cond.instanceMethod yX0_openTimeAt, Cond.selects RX0 yX0_openTimeAt yX0_openTimeAt, Cond.code yX0_openTimeAt cX0_openTimeAt 5 (some .int), Cond.methodLink RX0 73 Lib.Math.abs.name, Cond.static Lib.Math.abs.name, Cond.code Lib.Math.abs.name Lib.Math.abs.code 1 (some .int), Cond.methodLink RX0 100 yJ6_bitCount_0f7a4, Cond.static yJ6_bitCount_0f7a4, Cond.initialized RJ6, Cond.code yJ6_bitCount_0f7a4 cJ6_bitCount_0f7a4 1 (some .int), Cond.constant RJ6 265 (1431655765), Cond.constant RJ6 266 (858993459), Cond.constant RJ6 267 (252645135)]
def wsX4_trialShare : List Cond := .code yX4_trialShare cX4_trialShare 4 (some .int) :: ((wsX4_trialShare_r1 ++ (wsX4_trialShare_r2 ++ wsX4_trialShare_r3)) ++ wsX40 ++ wsX00)
def wsX4_bestPlace_r1 : List Cond := [Cond.fieldLink RX4 10 "UmbrellaVote" "city" "LUmbrellaVote$City;", Cond.fieldLink RX4 154 "UmbrellaVote$City" "slows" "[I", Cond.methodLink RX4 157 yX4_trialShare, Cond.instanceMethod yX4_trialShare, Cond.selects RX4 yX4_trialShare yX4_trialShare, Cond.initialized RX4, Cond.code yX4_trialShare cX4_trialShare 4 (some .int), Cond.fieldLink RX4 16 "UmbrellaVote" "trial" "LUmbrellaVote$City;", Cond.methodLink RX4 179 yX0_copyFrom, Cond.instanceMethod yX0_copyFrom, Cond.selects RX0 yX0_copyFrom yX0_copyFrom, Cond.initialized RX0, Cond.code yX0_copyFrom cX0_copyFrom 2 none, Cond.fieldLink RX0 9 "UmbrellaVote$City" "spread" "I", Cond.fieldLink RX0 15 "UmbrellaVote$City" "shade" "I", Cond.fieldLink RX0 40 "UmbrellaVote$City" "there" "I", Cond.fieldLink RX0 43 "UmbrellaVote$City" "holes" "I", Cond.fieldLink RX0 46 "UmbrellaVote$City" "cotton" "I", Cond.fieldLink RX0 49 "UmbrellaVote$City" "tables" "I", Cond.fieldLink RX0 52 "UmbrellaVote$City" "sights" "I", Cond.fieldLink RX0 18 "UmbrellaVote$City" "places" "[I", Cond.methodLink RX0 55 arraycopyName, Cond.native arraycopyName, Cond.static arraycopyName]
def wsX4_bestPlace_r2 : List Cond := [Cond.initialized "java/lang/System", Cond.fieldLink RX0 22 "UmbrellaVote$City" "slows" "[I", Cond.fieldLink RX0 25 "UmbrellaVote$City" "weights" "[I", Cond.fieldLink RX0 28 "UmbrellaVote$City" "sightHows" "[I", Cond.fieldLink RX0 31 "UmbrellaVote$City" "sightOfs" "[I", Cond.methodLink RX4 54 yX0_put, Cond.instanceMethod yX0_put, Cond.selects RX0 yX0_put yX0_put, Cond.code yX0_put cX0_put 4 none, Cond.static yX4_within, Cond.code yX4_within cX4_within 3 (some .boolean), Cond.methodLink RX4 141 yX0_shareOf, Cond.instanceMethod yX0_shareOf, Cond.selects RX0 yX0_shareOf yX0_shareOf, Cond.code yX0_shareOf cX0_shareOf 6 (some .int), Cond.methodLink RX0 86 yX0_umbrellas, Cond.instanceMethod yX0_umbrellas, Cond.selects RX0 yX0_umbrellas yX0_umbrellas, Cond.code yX0_umbrellas cX0_umbrellas 1 (some .int), Cond.methodLink RX0 90 yX0_firstOf, Cond.instanceMethod yX0_firstOf, Cond.selects RX0 yX0_firstOf yX0_firstOf, Cond.code yX0_firstOf cX0_firstOf 7 (some .int), Cond.constant RX0 81 (2147483647)]
def wsX4_bestPlace_r3 : List Cond := [Cond.methodLink RX0 82 Lib.Math.min.name, Cond.static Lib.Math.min.name, Cond.initialized "java/lang/Math", Cond.code Lib.Math.min.name Lib.Math.min.code 2 (some .int), Cond.static yX4_hasBit, Cond.code yX4_hasBit cX4_hasBit 2 (some .boolean), Cond.methodLink RX0 69 yX0_openTimeAt, Cond.instanceMethod yX0_openTimeAt, Cond.selects RX0 yX0_openTimeAt yX0_openTimeAt, Cond.code yX0_openTimeAt cX0_openTimeAt 5 (some .int), Cond.methodLink RX0 73 Lib.Math.abs.name, Cond.static Lib.Math.abs.name, Cond.code Lib.Math.abs.name Lib.Math.abs.code 1 (some .int), Cond.methodLink RX0 100 yJ6_bitCount_0f7a4, Cond.static yJ6_bitCount_0f7a4, Cond.initialized RJ6, Cond.code yJ6_bitCount_0f7a4 cJ6_bitCount_0f7a4 1 (some .int), Cond.constant RJ6 265 (1431655765), Cond.constant RJ6 266 (858993459), Cond.constant RJ6 267 (252645135)]
def wsX4_bestPlace : List Cond := .code yX4_bestPlace cX4_bestPlace 6 (some .int) :: ((wsX4_bestPlace_r1 ++ (wsX4_bestPlace_r2 ++ wsX4_bestPlace_r3)) ++ wsX40 ++ wsX00)
def wsX4_best_r1 : List Cond := [Cond.fieldLink RX4 10 "UmbrellaVote" "city" "LUmbrellaVote$City;", Cond.methodLink RX4 78 yX0_isThere, Cond.instanceMethod yX0_isThere, Cond.selects RX0 yX0_isThere yX0_isThere, Cond.initialized RX0, Cond.code yX0_isThere cX0_isThere 2 (some .boolean), Cond.fieldLink RX0 40 "UmbrellaVote$City" "there" "I", Cond.static yX4_within, Cond.initialized RX4, Cond.code yX4_within cX4_within 3 (some .boolean), Cond.static yX4_hasBit, Cond.code yX4_hasBit cX4_hasBit 2 (some .boolean), Cond.methodLink RX4 151 yX4_bestPlace, Cond.instanceMethod yX4_bestPlace, Cond.selects RX4 yX4_bestPlace yX4_bestPlace, Cond.code yX4_bestPlace cX4_bestPlace 6 (some .int), Cond.fieldLink RX4 154 "UmbrellaVote$City" "slows" "[I", Cond.methodLink RX4 157 yX4_trialShare, Cond.instanceMethod yX4_trialShare, Cond.selects RX4 yX4_trialShare yX4_trialShare, Cond.code yX4_trialShare cX4_trialShare 4 (some .int), Cond.fieldLink RX4 16 "UmbrellaVote" "trial" "LUmbrellaVote$City;", Cond.methodLink RX4 179 yX0_copyFrom, Cond.instanceMethod yX0_copyFrom]
def wsX4_best_r2 : List Cond := [Cond.selects RX0 yX0_copyFrom yX0_copyFrom, Cond.code yX0_copyFrom cX0_copyFrom 2 none, Cond.fieldLink RX0 9 "UmbrellaVote$City" "spread" "I", Cond.fieldLink RX0 15 "UmbrellaVote$City" "shade" "I", Cond.fieldLink RX0 43 "UmbrellaVote$City" "holes" "I", Cond.fieldLink RX0 46 "UmbrellaVote$City" "cotton" "I", Cond.fieldLink RX0 49 "UmbrellaVote$City" "tables" "I", Cond.fieldLink RX0 52 "UmbrellaVote$City" "sights" "I", Cond.fieldLink RX0 18 "UmbrellaVote$City" "places" "[I", Cond.methodLink RX0 55 arraycopyName, Cond.native arraycopyName, Cond.static arraycopyName, Cond.initialized "java/lang/System", Cond.fieldLink RX0 22 "UmbrellaVote$City" "slows" "[I", Cond.fieldLink RX0 25 "UmbrellaVote$City" "weights" "[I", Cond.fieldLink RX0 28 "UmbrellaVote$City" "sightHows" "[I", Cond.fieldLink RX0 31 "UmbrellaVote$City" "sightOfs" "[I", Cond.methodLink RX4 54 yX0_put, Cond.instanceMethod yX0_put, Cond.selects RX0 yX0_put yX0_put, Cond.code yX0_put cX0_put 4 none, Cond.methodLink RX4 141 yX0_shareOf, Cond.instanceMethod yX0_shareOf, Cond.selects RX0 yX0_shareOf yX0_shareOf]
def wsX4_best_r3 : List Cond := [Cond.code yX0_shareOf cX0_shareOf 6 (some .int), Cond.methodLink RX0 86 yX0_umbrellas, Cond.instanceMethod yX0_umbrellas, Cond.selects RX0 yX0_umbrellas yX0_umbrellas, Cond.code yX0_umbrellas cX0_umbrellas 1 (some .int), Cond.methodLink RX0 90 yX0_firstOf, Cond.instanceMethod yX0_firstOf, Cond.selects RX0 yX0_firstOf yX0_firstOf, Cond.code yX0_firstOf cX0_firstOf 7 (some .int), Cond.constant RX0 81 (2147483647), Cond.methodLink RX0 82 Lib.Math.min.name, Cond.static Lib.Math.min.name, Cond.initialized "java/lang/Math", Cond.code Lib.Math.min.name Lib.Math.min.code 2 (some .int), Cond.methodLink RX0 69 yX0_openTimeAt, Cond.instanceMethod yX0_openTimeAt, Cond.selects RX0 yX0_openTimeAt yX0_openTimeAt, Cond.code yX0_openTimeAt cX0_openTimeAt 5 (some .int), Cond.methodLink RX0 73 Lib.Math.abs.name, Cond.static Lib.Math.abs.name, Cond.code Lib.Math.abs.name Lib.Math.abs.code 1 (some .int), Cond.methodLink RX0 100 yJ6_bitCount_0f7a4, Cond.static yJ6_bitCount_0f7a4, Cond.initialized RJ6]
def wsX4_best_r4 : List Cond := [Cond.code yJ6_bitCount_0f7a4 cJ6_bitCount_0f7a4 1 (some .int), Cond.constant RJ6 265 (1431655765), Cond.constant RJ6 266 (858993459), Cond.constant RJ6 267 (252645135)]
def wsX4_best : List Cond := .code yX4_best cX4_best 2 (some .int) :: ((wsX4_best_r1 ++ (wsX4_best_r2 ++ (wsX4_best_r3 ++ wsX4_best_r4))) ++ wsX40 ++ wsX00)
def wsX4_bestChance_r1 : List Cond := [Cond.fieldLink RX4 10 "UmbrellaVote" "city" "LUmbrellaVote$City;", Cond.constantLong RX4 137 (-1000000000000000001), Cond.constantLong RX4 139 (-1000000000000000002), Cond.fieldLink RX4 154 "UmbrellaVote$City" "slows" "[I", Cond.methodLink RX4 78 yX0_isThere, Cond.instanceMethod yX0_isThere, Cond.selects RX0 yX0_isThere yX0_isThere, Cond.initialized RX0, Cond.code yX0_isThere cX0_isThere 2 (some .boolean), Cond.fieldLink RX0 40 "UmbrellaVote$City" "there" "I", Cond.static yX4_within, Cond.initialized RX4, Cond.code yX4_within cX4_within 3 (some .boolean), Cond.static yX4_hasBit, Cond.code yX4_hasBit cX4_hasBit 2 (some .boolean), Cond.methodLink RX4 46 yX4_within, Cond.methodLink RX4 151 yX4_bestPlace, Cond.instanceMethod yX4_bestPlace, Cond.selects RX4 yX4_bestPlace yX4_bestPlace, Cond.code yX4_bestPlace cX4_bestPlace 6 (some .int), Cond.methodLink RX4 157 yX4_trialShare, Cond.instanceMethod yX4_trialShare, Cond.selects RX4 yX4_trialShare yX4_trialShare, Cond.code yX4_trialShare cX4_trialShare 4 (some .int)]
def wsX4_bestChance_r2 : List Cond := [Cond.fieldLink RX4 16 "UmbrellaVote" "trial" "LUmbrellaVote$City;", Cond.methodLink RX4 179 yX0_copyFrom, Cond.instanceMethod yX0_copyFrom, Cond.selects RX0 yX0_copyFrom yX0_copyFrom, Cond.code yX0_copyFrom cX0_copyFrom 2 none, Cond.fieldLink RX0 9 "UmbrellaVote$City" "spread" "I", Cond.fieldLink RX0 15 "UmbrellaVote$City" "shade" "I", Cond.fieldLink RX0 43 "UmbrellaVote$City" "holes" "I", Cond.fieldLink RX0 46 "UmbrellaVote$City" "cotton" "I", Cond.fieldLink RX0 49 "UmbrellaVote$City" "tables" "I", Cond.fieldLink RX0 52 "UmbrellaVote$City" "sights" "I", Cond.fieldLink RX0 18 "UmbrellaVote$City" "places" "[I", Cond.methodLink RX0 55 arraycopyName, Cond.native arraycopyName, Cond.static arraycopyName, Cond.initialized "java/lang/System", Cond.fieldLink RX0 22 "UmbrellaVote$City" "slows" "[I", Cond.fieldLink RX0 25 "UmbrellaVote$City" "weights" "[I", Cond.fieldLink RX0 28 "UmbrellaVote$City" "sightHows" "[I", Cond.fieldLink RX0 31 "UmbrellaVote$City" "sightOfs" "[I", Cond.methodLink RX4 54 yX0_put, Cond.instanceMethod yX0_put, Cond.selects RX0 yX0_put yX0_put, Cond.code yX0_put cX0_put 4 none]
def wsX4_bestChance_r3 : List Cond := [Cond.methodLink RX4 141 yX0_shareOf, Cond.instanceMethod yX0_shareOf, Cond.selects RX0 yX0_shareOf yX0_shareOf, Cond.code yX0_shareOf cX0_shareOf 6 (some .int), Cond.methodLink RX0 86 yX0_umbrellas, Cond.instanceMethod yX0_umbrellas, Cond.selects RX0 yX0_umbrellas yX0_umbrellas, Cond.code yX0_umbrellas cX0_umbrellas 1 (some .int), Cond.methodLink RX0 90 yX0_firstOf, Cond.instanceMethod yX0_firstOf, Cond.selects RX0 yX0_firstOf yX0_firstOf, Cond.code yX0_firstOf cX0_firstOf 7 (some .int), Cond.constant RX0 81 (2147483647), Cond.methodLink RX0 82 Lib.Math.min.name, Cond.static Lib.Math.min.name, Cond.initialized "java/lang/Math", Cond.code Lib.Math.min.name Lib.Math.min.code 2 (some .int), Cond.methodLink RX0 69 yX0_openTimeAt, Cond.instanceMethod yX0_openTimeAt, Cond.selects RX0 yX0_openTimeAt yX0_openTimeAt, Cond.code yX0_openTimeAt cX0_openTimeAt 5 (some .int), Cond.methodLink RX0 73 Lib.Math.abs.name, Cond.static Lib.Math.abs.name, Cond.code Lib.Math.abs.name Lib.Math.abs.code 1 (some .int)]
def wsX4_bestChance_r4 : List Cond := [Cond.methodLink RX0 100 yJ6_bitCount_0f7a4, Cond.static yJ6_bitCount_0f7a4, Cond.initialized RJ6, Cond.code yJ6_bitCount_0f7a4 cJ6_bitCount_0f7a4 1 (some .int), Cond.constant RJ6 265 (1431655765), Cond.constant RJ6 266 (858993459), Cond.constant RJ6 267 (252645135), Cond.methodLink RX4 144 yX0_allShares, Cond.instanceMethod yX0_allShares, Cond.selects RX0 yX0_allShares yX0_allShares, Cond.code yX0_allShares cX0_allShares 1 (some .int), Cond.methodLink RX0 97 yX0_allWeights, Cond.instanceMethod yX0_allWeights, Cond.selects RX0 yX0_allWeights yX0_allWeights, Cond.code yX0_allWeights cX0_allWeights 3 (some .int), Cond.methodLink RX4 147 yX4_fraction, Cond.static yX4_fraction, Cond.code yX4_fraction cX4_fraction 4 (some .long), Cond.methodLink RX4 205 yX4_commonDivisor, Cond.static yX4_commonDivisor, Cond.code yX4_commonDivisor cX4_commonDivisor 6 (some .int)]
def wsX4_bestChance : List Cond := .code yX4_bestChance cX4_bestChance 4 (some .long) :: ((wsX4_bestChance_r1 ++ (wsX4_bestChance_r2 ++ (wsX4_bestChance_r3 ++ wsX4_bestChance_r4))) ++ wsX40 ++ wsX00)
def wsX4_rests_r1 : List Cond := [Cond.fieldLink RX4 10 "UmbrellaVote" "city" "LUmbrellaVote$City;", Cond.fieldLink RX4 58 "UmbrellaVote$City" "there" "I", Cond.fieldLink RX4 42 "UmbrellaVote" "resting" "LUmbrellaVote$Resting;", Cond.methodLink RX4 72 yJ6_bitCount_0f7a4, Cond.static yJ6_bitCount_0f7a4, Cond.initialized RJ6, Cond.code yJ6_bitCount_0f7a4 cJ6_bitCount_0f7a4 1 (some .int), Cond.constant RJ6 265 (1431655765), Cond.constant RJ6 266 (858993459), Cond.constant RJ6 267 (252645135), Cond.methodLink RX4 161 yX3_weigh, Cond.instanceMethod yX3_weigh, Cond.selects RX3 yX3_weigh yX3_weigh, Cond.initialized RX3, Cond.code yX3_weigh cX3_weigh 3 none, Cond.fieldLink RX3 26 "UmbrellaVote$City" "weights" "[I", Cond.fieldLink RX3 11 "UmbrellaVote$Resting" "weights" "[I", Cond.methodLink RX3 29 arraycopyName, Cond.native arraycopyName, Cond.static arraycopyName, Cond.initialized "java/lang/System", Cond.fieldLink RX3 23 "UmbrellaVote$Resting" "greatest" "[I", Cond.fieldLink RX3 45 "UmbrellaVote$Resting" "rows" "I", Cond.methodLink RX3 35 yJ7_fill_53178]
def wsX4_rests_r2 : List Cond := [Cond.static yJ7_fill_53178, Cond.initialized RJ7, Cond.code yJ7_fill_53178 cJ7_fill_53178 4 none, Cond.methodLink RX3 41 yX3_fillSlots, Cond.instanceMethod yX3_fillSlots, Cond.selects RX3 yX3_fillSlots yX3_fillSlots, Cond.code yX3_fillSlots cX3_fillSlots 4 none, Cond.fieldLink RX3 17 "UmbrellaVote$Resting" "times" "[I", Cond.constant RX3 53 (2147483647), Cond.fieldLink RX3 58 "UmbrellaVote$City" "holes" "I", Cond.fieldLink RX3 65 "UmbrellaVote$City" "slows" "[I", Cond.methodLink RX3 54 yX0_isThere, Cond.instanceMethod yX0_isThere, Cond.selects RX0 yX0_isThere yX0_isThere, Cond.initialized RX0, Cond.code yX0_isThere cX0_isThere 2 (some .boolean), Cond.fieldLink RX0 40 "UmbrellaVote$City" "there" "I", Cond.static yX4_within, Cond.initialized RX4, Cond.code yX4_within cX4_within 3 (some .boolean), Cond.static yX4_hasBit, Cond.code yX4_hasBit cX4_hasBit 2 (some .boolean), Cond.methodLink RX3 68 yX3_fillTimes, Cond.instanceMethod yX3_fillTimes]
def wsX4_rests_r3 : List Cond := [Cond.selects RX3 yX3_fillTimes yX3_fillTimes, Cond.code yX3_fillTimes cX3_fillTimes 6 none, Cond.methodLink RX3 72 yX3_pair, Cond.static yX3_pair, Cond.code yX3_pair cX3_pair 3 (some .int), Cond.methodLink RX3 76 yX0_openTimeAt, Cond.instanceMethod yX0_openTimeAt, Cond.selects RX0 yX0_openTimeAt yX0_openTimeAt, Cond.code yX0_openTimeAt cX0_openTimeAt 5 (some .int), Cond.fieldLink RX0 49 "UmbrellaVote$City" "tables" "I", Cond.fieldLink RX0 15 "UmbrellaVote$City" "shade" "I", Cond.methodLink RX0 73 Lib.Math.abs.name, Cond.static Lib.Math.abs.name, Cond.initialized "java/lang/Math", Cond.code Lib.Math.abs.name Lib.Math.abs.code 1 (some .int), Cond.fieldLink RX0 9 "UmbrellaVote$City" "spread" "I", Cond.methodLink RX3 49 yX3_weighRow, Cond.instanceMethod yX3_weighRow, Cond.selects RX3 yX3_weighRow yX3_weighRow, Cond.code yX3_weighRow cX3_weighRow 18 none, Cond.methodLink RX3 79 Lib.Math.min.name, Cond.static Lib.Math.min.name, Cond.code Lib.Math.min.name Lib.Math.min.code 2 (some .int), Cond.methodLink RX3 85 yX3_keep]
def wsX4_rests_r4 : List Cond := [Cond.instanceMethod yX3_keep, Cond.selects RX3 yX3_keep yX3_keep, Cond.code yX3_keep cX3_keep 4 none, Cond.fieldLink RX3 20 "UmbrellaVote$Resting" "shares" "[I", Cond.methodLink RX3 89 Lib.Math.max.name, Cond.static Lib.Math.max.name, Cond.code Lib.Math.max.name Lib.Math.max.code 2 (some .int), Cond.methodLink RX4 164 yX3_howMany, Cond.instanceMethod yX3_howMany, Cond.selects RX3 yX3_howMany yX3_howMany, Cond.code yX3_howMany cX3_howMany 3 (some .int), Cond.methodLink RX3 92 yX3_isRest, Cond.instanceMethod yX3_isRest, Cond.selects RX3 yX3_isRest yX3_isRest, Cond.code yX3_isRest cX3_isRest 5 (some .boolean), Cond.methodLink RX4 167 yX3_row, Cond.instanceMethod yX3_row, Cond.selects RX3 yX3_row yX3_row, Cond.code yX3_row cX3_row 4 (some .int)]
def wsX4_rests : List Cond := .code yX4_rests cX4_rests 2 (some .int) :: ((wsX4_rests_r1 ++ (wsX4_rests_r2 ++ (wsX4_rests_r3 ++ wsX4_rests_r4))) ++ wsX40 ++ wsX00 ++ wsX30)
def wsX4_coup_r1 : List Cond := [Cond.fieldLink RX4 10 "UmbrellaVote" "city" "LUmbrellaVote$City;", Cond.fieldLink RX4 170 "UmbrellaVote$City" "places" "[I", Cond.methodLink RX4 78 yX0_isThere, Cond.instanceMethod yX0_isThere, Cond.selects RX0 yX0_isThere yX0_isThere, Cond.initialized RX0, Cond.code yX0_isThere cX0_isThere 2 (some .boolean), Cond.fieldLink RX0 40 "UmbrellaVote$City" "there" "I", Cond.static yX4_within, Cond.initialized RX4, Cond.code yX4_within cX4_within 3 (some .boolean), Cond.static yX4_hasBit, Cond.code yX4_hasBit cX4_hasBit 2 (some .boolean), Cond.methodLink RX4 173 yX0_umbrellas, Cond.instanceMethod yX0_umbrellas, Cond.selects RX0 yX0_umbrellas yX0_umbrellas, Cond.code yX0_umbrellas cX0_umbrellas 1 (some .int), Cond.fieldLink RX0 43 "UmbrellaVote$City" "holes" "I", Cond.methodLink RX4 176 yX0_sprinkled, Cond.instanceMethod yX0_sprinkled, Cond.selects RX0 yX0_sprinkled yX0_sprinkled, Cond.code yX0_sprinkled cX0_sprinkled 5 (some .int), Cond.fieldLink RX0 18 "UmbrellaVote$City" "places" "[I", Cond.static yX4_withBit]
def wsX4_coup_r2 : List Cond := [Cond.code yX4_withBit cX4_withBit 3 (some .int), Cond.methodLink RX0 90 yX0_firstOf, Cond.instanceMethod yX0_firstOf, Cond.selects RX0 yX0_firstOf yX0_firstOf, Cond.code yX0_firstOf cX0_firstOf 7 (some .int), Cond.constant RX0 81 (2147483647), Cond.fieldLink RX0 22 "UmbrellaVote$City" "slows" "[I", Cond.methodLink RX0 82 Lib.Math.min.name, Cond.static Lib.Math.min.name, Cond.initialized "java/lang/Math", Cond.code Lib.Math.min.name Lib.Math.min.code 2 (some .int), Cond.methodLink RX0 69 yX0_openTimeAt, Cond.instanceMethod yX0_openTimeAt, Cond.selects RX0 yX0_openTimeAt yX0_openTimeAt, Cond.code yX0_openTimeAt cX0_openTimeAt 5 (some .int), Cond.fieldLink RX0 49 "UmbrellaVote$City" "tables" "I", Cond.fieldLink RX0 15 "UmbrellaVote$City" "shade" "I", Cond.methodLink RX0 73 Lib.Math.abs.name, Cond.static Lib.Math.abs.name, Cond.code Lib.Math.abs.name Lib.Math.abs.code 1 (some .int), Cond.fieldLink RX0 9 "UmbrellaVote$City" "spread" "I"]
def wsX4_coup : List Cond := .code yX4_coup cX4_coup 3 (some .int) :: ((wsX4_coup_r1 ++ wsX4_coup_r2) ++ wsX40 ++ wsX00)
def wsX4_quick_r1 : List Cond := [Cond.fieldLink RX4 10 "UmbrellaVote" "city" "LUmbrellaVote$City;", Cond.fieldLink RX4 170 "UmbrellaVote$City" "places" "[I", Cond.methodLink RX4 78 yX0_isThere, Cond.instanceMethod yX0_isThere, Cond.selects RX0 yX0_isThere yX0_isThere, Cond.initialized RX0, Cond.code yX0_isThere cX0_isThere 2 (some .boolean), Cond.fieldLink RX0 40 "UmbrellaVote$City" "there" "I", Cond.static yX4_within, Cond.initialized RX4, Cond.code yX4_within cX4_within 3 (some .boolean), Cond.static yX4_hasBit, Cond.code yX4_hasBit cX4_hasBit 2 (some .boolean), Cond.methodLink RX4 46 yX4_within, Cond.methodLink RX4 144 yX0_allShares, Cond.instanceMethod yX0_allShares, Cond.selects RX0 yX0_allShares yX0_allShares, Cond.code yX0_allShares cX0_allShares 1 (some .int), Cond.methodLink RX0 97 yX0_allWeights, Cond.instanceMethod yX0_allWeights, Cond.selects RX0 yX0_allWeights yX0_allWeights, Cond.code yX0_allWeights cX0_allWeights 3 (some .int), Cond.fieldLink RX0 25 "UmbrellaVote$City" "weights" "[I", Cond.methodLink RX4 157 yX4_trialShare]
def wsX4_quick_r2 : List Cond := [Cond.instanceMethod yX4_trialShare, Cond.selects RX4 yX4_trialShare yX4_trialShare, Cond.code yX4_trialShare cX4_trialShare 4 (some .int), Cond.fieldLink RX4 16 "UmbrellaVote" "trial" "LUmbrellaVote$City;", Cond.methodLink RX4 179 yX0_copyFrom, Cond.instanceMethod yX0_copyFrom, Cond.selects RX0 yX0_copyFrom yX0_copyFrom, Cond.code yX0_copyFrom cX0_copyFrom 2 none, Cond.fieldLink RX0 9 "UmbrellaVote$City" "spread" "I", Cond.fieldLink RX0 15 "UmbrellaVote$City" "shade" "I", Cond.fieldLink RX0 43 "UmbrellaVote$City" "holes" "I", Cond.fieldLink RX0 46 "UmbrellaVote$City" "cotton" "I", Cond.fieldLink RX0 49 "UmbrellaVote$City" "tables" "I", Cond.fieldLink RX0 52 "UmbrellaVote$City" "sights" "I", Cond.fieldLink RX0 18 "UmbrellaVote$City" "places" "[I", Cond.methodLink RX0 55 arraycopyName, Cond.native arraycopyName, Cond.static arraycopyName, Cond.initialized "java/lang/System", Cond.fieldLink RX0 22 "UmbrellaVote$City" "slows" "[I", Cond.fieldLink RX0 28 "UmbrellaVote$City" "sightHows" "[I", Cond.fieldLink RX0 31 "UmbrellaVote$City" "sightOfs" "[I", Cond.methodLink RX4 54 yX0_put, Cond.instanceMethod yX0_put]
def wsX4_quick_r3 : List Cond := [Cond.selects RX0 yX0_put yX0_put, Cond.code yX0_put cX0_put 4 none, Cond.methodLink RX4 141 yX0_shareOf, Cond.instanceMethod yX0_shareOf, Cond.selects RX0 yX0_shareOf yX0_shareOf, Cond.code yX0_shareOf cX0_shareOf 6 (some .int), Cond.methodLink RX0 86 yX0_umbrellas, Cond.instanceMethod yX0_umbrellas, Cond.selects RX0 yX0_umbrellas yX0_umbrellas, Cond.code yX0_umbrellas cX0_umbrellas 1 (some .int), Cond.methodLink RX0 90 yX0_firstOf, Cond.instanceMethod yX0_firstOf, Cond.selects RX0 yX0_firstOf yX0_firstOf, Cond.code yX0_firstOf cX0_firstOf 7 (some .int), Cond.constant RX0 81 (2147483647), Cond.methodLink RX0 82 Lib.Math.min.name, Cond.static Lib.Math.min.name, Cond.initialized "java/lang/Math", Cond.code Lib.Math.min.name Lib.Math.min.code 2 (some .int), Cond.methodLink RX0 69 yX0_openTimeAt, Cond.instanceMethod yX0_openTimeAt, Cond.selects RX0 yX0_openTimeAt yX0_openTimeAt, Cond.code yX0_openTimeAt cX0_openTimeAt 5 (some .int), Cond.methodLink RX0 73 Lib.Math.abs.name]
def wsX4_quick_r4 : List Cond := [Cond.static Lib.Math.abs.name, Cond.code Lib.Math.abs.name Lib.Math.abs.code 1 (some .int), Cond.methodLink RX0 100 yJ6_bitCount_0f7a4, Cond.static yJ6_bitCount_0f7a4, Cond.initialized RJ6, Cond.code yJ6_bitCount_0f7a4 cJ6_bitCount_0f7a4 1 (some .int), Cond.constant RJ6 265 (1431655765), Cond.constant RJ6 266 (858993459), Cond.constant RJ6 267 (252645135)]
def wsX4_quick : List Cond := .code yX4_quick cX4_quick 6 (some .int) :: ((wsX4_quick_r1 ++ (wsX4_quick_r2 ++ (wsX4_quick_r3 ++ wsX4_quick_r4))) ++ wsX40 ++ wsX00)
def wsX4_seen : List Cond := .code yX4_seen cX4_seen 3 (some .int) :: ([.fieldLink RX4 10 "UmbrellaVote" "city" "LUmbrellaVote$City;", .fieldLink RX4 185 "UmbrellaVote$City" "sights" "I", .methodLink RX4 46 yX4_within, .static yX4_within, .initialized RX4, .code yX4_within cX4_within 3 (some .boolean), .methodLink RX4 182 yX0_addSight, .instanceMethod yX0_addSight, .selects RX0 yX0_addSight yX0_addSight, .initialized RX0, .code yX0_addSight cX0_addSight 3 (some .boolean), .fieldLink RX0 52 "UmbrellaVote$City" "sights" "I", .fieldLink RX0 28 "UmbrellaVote$City" "sightHows" "[I", .fieldLink RX0 31 "UmbrellaVote$City" "sightOfs" "[I"] ++ wsX40 ++ wsX00)
def wsX4_forget : List Cond := .code yX4_forget cX4_forget 2 (some .int) :: ([.fieldLink RX4 10 "UmbrellaVote" "city" "LUmbrellaVote$City;", .fieldLink RX4 185 "UmbrellaVote$City" "sights" "I"] ++ wsX40 ++ wsX00)
def wsX4_fits_r1 : List Cond := [Cond.fieldLink RX4 10 "UmbrellaVote" "city" "LUmbrellaVote$City;", Cond.methodLink RX4 100 yX0_rulers, Cond.instanceMethod yX0_rulers, Cond.selects RX0 yX0_rulers yX0_rulers, Cond.initialized RX0, Cond.code yX0_rulers cX0_rulers 2 (some .int), Cond.methodLink RX0 86 yX0_umbrellas, Cond.instanceMethod yX0_umbrellas, Cond.selects RX0 yX0_umbrellas yX0_umbrellas, Cond.code yX0_umbrellas cX0_umbrellas 1 (some .int), Cond.fieldLink RX0 40 "UmbrellaVote$City" "there" "I", Cond.fieldLink RX0 43 "UmbrellaVote$City" "holes" "I", Cond.methodLink RX0 90 yX0_firstOf, Cond.instanceMethod yX0_firstOf, Cond.selects RX0 yX0_firstOf yX0_firstOf, Cond.code yX0_firstOf cX0_firstOf 7 (some .int), Cond.constant RX0 81 (2147483647), Cond.fieldLink RX0 18 "UmbrellaVote$City" "places" "[I", Cond.fieldLink RX0 22 "UmbrellaVote$City" "slows" "[I", Cond.methodLink RX0 82 Lib.Math.min.name, Cond.static Lib.Math.min.name, Cond.initialized "java/lang/Math", Cond.code Lib.Math.min.name Lib.Math.min.code 2 (some .int), Cond.static yX4_hasBit]
def wsX4_fits_r2 : List Cond := [Cond.initialized RX4, Cond.code yX4_hasBit cX4_hasBit 2 (some .boolean), Cond.methodLink RX0 69 yX0_openTimeAt, Cond.instanceMethod yX0_openTimeAt, Cond.selects RX0 yX0_openTimeAt yX0_openTimeAt, Cond.code yX0_openTimeAt cX0_openTimeAt 5 (some .int), Cond.fieldLink RX0 49 "UmbrellaVote$City" "tables" "I", Cond.fieldLink RX0 15 "UmbrellaVote$City" "shade" "I", Cond.methodLink RX0 73 Lib.Math.abs.name, Cond.static Lib.Math.abs.name, Cond.code Lib.Math.abs.name Lib.Math.abs.code 1 (some .int), Cond.fieldLink RX0 9 "UmbrellaVote$City" "spread" "I", Cond.methodLink RX4 188 yX0_fitsSights, Cond.instanceMethod yX0_fitsSights, Cond.selects RX0 yX0_fitsSights yX0_fitsSights, Cond.code yX0_fitsSights cX0_fitsSights 5 (some .boolean), Cond.fieldLink RX0 52 "UmbrellaVote$City" "sights" "I", Cond.fieldLink RX0 31 "UmbrellaVote$City" "sightOfs" "[I", Cond.fieldLink RX0 28 "UmbrellaVote$City" "sightHows" "[I", Cond.methodLink RX4 62 yX4_withBit, Cond.static yX4_withBit, Cond.code yX4_withBit cX4_withBit 3 (some .int)]
def wsX4_fits : List Cond := .code yX4_fits cX4_fits 3 (some .int) :: ((wsX4_fits_r1 ++ wsX4_fits_r2) ++ wsX40 ++ wsX00)
def wsX4_year_r1 : List Cond := [Cond.fieldLink RX4 35 "UmbrellaVote" "history" "LUmbrellaVote$History;", Cond.constant RX4 194 (65537), Cond.fieldLink RX4 124 "UmbrellaVote$History" "reigns" "I", Cond.methodLink RX4 46 yX4_within, Cond.static yX4_within, Cond.initialized RX4, Cond.code yX4_within cX4_within 3 (some .boolean), Cond.methodLink RX4 191 yX1_begin, Cond.instanceMethod yX1_begin, Cond.selects RX1 yX1_begin yX1_begin, Cond.initialized RX1, Cond.code yX1_begin cX1_begin 1 none, Cond.fieldLink RX1 19 "UmbrellaVote$History" "ruling" "I", Cond.fieldLink RX1 23 "UmbrellaVote$History" "broken" "I", Cond.fieldLink RX1 26 "UmbrellaVote$History" "reigns" "I", Cond.fieldLink RX1 9 "UmbrellaVote$History" "years" "[I", Cond.methodLink RX1 29 yJ7_fill_53178, Cond.static yJ7_fill_53178, Cond.initialized RJ7, Cond.code yJ7_fill_53178 cJ7_fill_53178 4 none, Cond.methodLink RX4 195 yX1_rain, Cond.instanceMethod yX1_rain, Cond.selects RX1 yX1_rain yX1_rain, Cond.code yX1_rain cX1_rain 2 none]
def wsX4_year_r2 : List Cond := [Cond.fieldLink RX1 15 "UmbrellaVote$History" "city" "LUmbrellaVote$City;", Cond.methodLink RX1 55 yX1_umbrellas, Cond.instanceMethod yX1_umbrellas, Cond.selects RX1 yX1_umbrellas yX1_umbrellas, Cond.code yX1_umbrellas cX1_umbrellas 1 (some .int), Cond.methodLink RX1 81 yX0_umbrellas, Cond.instanceMethod yX0_umbrellas, Cond.selects RX0 yX0_umbrellas yX0_umbrellas, Cond.initialized RX0, Cond.code yX0_umbrellas cX0_umbrellas 1 (some .int), Cond.fieldLink RX0 40 "UmbrellaVote$City" "there" "I", Cond.fieldLink RX0 43 "UmbrellaVote$City" "holes" "I", Cond.methodLink RX1 82 yX0_firstOf, Cond.instanceMethod yX0_firstOf, Cond.selects RX0 yX0_firstOf yX0_firstOf, Cond.code yX0_firstOf cX0_firstOf 7 (some .int), Cond.constant RX0 81 (2147483647), Cond.fieldLink RX0 18 "UmbrellaVote$City" "places" "[I", Cond.fieldLink RX0 22 "UmbrellaVote$City" "slows" "[I", Cond.methodLink RX0 82 Lib.Math.min.name, Cond.static Lib.Math.min.name, Cond.initialized "java/lang/Math", Cond.code Lib.Math.min.name Lib.Math.min.code 2 (some .int), Cond.static yX4_hasBit]
def wsX4_year_r3 : List Cond := [Cond.code yX4_hasBit cX4_hasBit 2 (some .boolean), Cond.methodLink RX0 69 yX0_openTimeAt, Cond.instanceMethod yX0_openTimeAt, Cond.selects RX0 yX0_openTimeAt yX0_openTimeAt, Cond.code yX0_openTimeAt cX0_openTimeAt 5 (some .int), Cond.fieldLink RX0 49 "UmbrellaVote$City" "tables" "I", Cond.fieldLink RX0 15 "UmbrellaVote$City" "shade" "I", Cond.methodLink RX0 73 Lib.Math.abs.name, Cond.static Lib.Math.abs.name, Cond.code Lib.Math.abs.name Lib.Math.abs.code 1 (some .int), Cond.fieldLink RX0 9 "UmbrellaVote$City" "spread" "I", Cond.methodLink RX1 65 yX1_opened, Cond.instanceMethod yX1_opened, Cond.selects RX1 yX1_opened yX1_opened, Cond.code yX1_opened cX1_opened 2 none, Cond.methodLink RX1 69 yX1_become, Cond.instanceMethod yX1_become, Cond.selects RX1 yX1_become yX1_become, Cond.code yX1_become cX1_become 2 none, Cond.methodLink RX4 199 yX1_pass, Cond.instanceMethod yX1_pass, Cond.selects RX1 yX1_pass yX1_pass, Cond.code yX1_pass cX1_pass 3 none, Cond.fieldLink RX1 93 "UmbrellaVote$City" "cotton" "I"]
def wsX4_year_r4 : List Cond := [Cond.methodLink RX4 127 yX1_yearsOf, Cond.instanceMethod yX1_yearsOf, Cond.selects RX1 yX1_yearsOf yX1_yearsOf, Cond.code yX1_yearsOf cX1_yearsOf 2 (some .int)]
def wsX4_year : List Cond := .code yX4_year cX4_year 6 (some .int) :: ((wsX4_year_r1 ++ (wsX4_year_r2 ++ (wsX4_year_r3 ++ wsX4_year_r4))) ++ wsX40 ++ wsX10 ++ wsX00)
def wsX4_image_r1 : List Cond := [Cond.fieldLink RX4 19 "UmbrellaVote" "images" "[LUmbrellaVote$City;", Cond.classLink RX4 7 RX0, Cond.instantiable RX0 12, Cond.initialized RX0, Cond.fieldLink RX4 10 "UmbrellaVote" "city" "LUmbrellaVote$City;", Cond.methodLink RX4 46 yX4_within, Cond.static yX4_within, Cond.initialized RX4, Cond.code yX4_within cX4_within 3 (some .boolean), Cond.methodLink RX4 9 yX0_init, Cond.instanceMethod yX0_init, Cond.code yX0_init cX0_init 1 none, Cond.methodLink RX0 3 objectInit, Cond.instanceMethod objectInit, Cond.code objectInit ⟨#[0xb1]⟩ 1 none, Cond.fieldLink RX0 9 "UmbrellaVote$City" "spread" "I", Cond.fieldLink RX0 15 "UmbrellaVote$City" "shade" "I", Cond.arrayClass .int, Cond.fieldLink RX0 18 "UmbrellaVote$City" "places" "[I", Cond.fieldLink RX0 22 "UmbrellaVote$City" "slows" "[I", Cond.fieldLink RX0 25 "UmbrellaVote$City" "weights" "[I", Cond.fieldLink RX0 28 "UmbrellaVote$City" "sightHows" "[I", Cond.fieldLink RX0 31 "UmbrellaVote$City" "sightOfs" "[I", Cond.methodLink RX0 34 yJ7_fill_53178]
def wsX4_image_r2 : List Cond := [Cond.static yJ7_fill_53178, Cond.initialized RJ7, Cond.code yJ7_fill_53178 cJ7_fill_53178 4 none, Cond.methodLink RX4 179 yX0_copyFrom, Cond.instanceMethod yX0_copyFrom, Cond.selects RX0 yX0_copyFrom yX0_copyFrom, Cond.code yX0_copyFrom cX0_copyFrom 2 none, Cond.fieldLink RX0 40 "UmbrellaVote$City" "there" "I", Cond.fieldLink RX0 43 "UmbrellaVote$City" "holes" "I", Cond.fieldLink RX0 46 "UmbrellaVote$City" "cotton" "I", Cond.fieldLink RX0 49 "UmbrellaVote$City" "tables" "I", Cond.fieldLink RX0 52 "UmbrellaVote$City" "sights" "I", Cond.methodLink RX0 55 arraycopyName, Cond.native arraycopyName, Cond.static arraycopyName, Cond.initialized "java/lang/System"]
def wsX4_image : List Cond := .code yX4_image cX4_image 3 (some .int) :: ((wsX4_image_r1 ++ wsX4_image_r2) ++ wsX40 ++ wsX00)
def wsX4_restore_r1 : List Cond := [Cond.fieldLink RX4 19 "UmbrellaVote" "images" "[LUmbrellaVote$City;", Cond.fieldLink RX4 10 "UmbrellaVote" "city" "LUmbrellaVote$City;", Cond.methodLink RX4 46 yX4_within, Cond.static yX4_within, Cond.initialized RX4, Cond.code yX4_within cX4_within 3 (some .boolean), Cond.methodLink RX4 179 yX0_copyFrom, Cond.instanceMethod yX0_copyFrom, Cond.selects RX0 yX0_copyFrom yX0_copyFrom, Cond.initialized RX0, Cond.code yX0_copyFrom cX0_copyFrom 2 none, Cond.fieldLink RX0 9 "UmbrellaVote$City" "spread" "I", Cond.fieldLink RX0 15 "UmbrellaVote$City" "shade" "I", Cond.fieldLink RX0 40 "UmbrellaVote$City" "there" "I", Cond.fieldLink RX0 43 "UmbrellaVote$City" "holes" "I", Cond.fieldLink RX0 46 "UmbrellaVote$City" "cotton" "I", Cond.fieldLink RX0 49 "UmbrellaVote$City" "tables" "I", Cond.fieldLink RX0 52 "UmbrellaVote$City" "sights" "I", Cond.fieldLink RX0 18 "UmbrellaVote$City" "places" "[I", Cond.methodLink RX0 55 arraycopyName, Cond.native arraycopyName, Cond.static arraycopyName, Cond.initialized "java/lang/System", Cond.fieldLink RX0 22 "UmbrellaVote$City" "slows" "[I"]
def wsX4_restore_r2 : List Cond := [Cond.fieldLink RX0 25 "UmbrellaVote$City" "weights" "[I", Cond.fieldLink RX0 28 "UmbrellaVote$City" "sightHows" "[I", Cond.fieldLink RX0 31 "UmbrellaVote$City" "sightOfs" "[I"]
def wsX4_restore : List Cond := .code yX4_restore cX4_restore 3 (some .int) :: ((wsX4_restore_r1 ++ wsX4_restore_r2) ++ wsX40 ++ wsX00)
def wsX4_toldOfPerson : List Cond := .code yX4_toldOfPerson cX4_toldOfPerson 3 (some .int) :: ([.fieldLink RX4 10 "UmbrellaVote" "city" "LUmbrellaVote$City;", .fieldLink RX4 170 "UmbrellaVote$City" "places" "[I", .fieldLink RX4 154 "UmbrellaVote$City" "slows" "[I", .fieldLink RX4 66 "UmbrellaVote$City" "cotton" "I", .fieldLink RX4 69 "UmbrellaVote$City" "holes" "I", .methodLink RX4 78 yX0_isThere, .instanceMethod yX0_isThere, .selects RX0 yX0_isThere yX0_isThere, .initialized RX0, .code yX0_isThere cX0_isThere 2 (some .boolean), .fieldLink RX0 40 "UmbrellaVote$City" "there" "I", .static yX4_within, .initialized RX4, .code yX4_within cX4_within 3 (some .boolean), .static yX4_hasBit, .code yX4_hasBit cX4_hasBit 2 (some .boolean), .methodLink RX4 110 yX4_hasBit] ++ wsX40 ++ wsX00)
def wsX4_told_r1 : List Cond := [Cond.fieldLink RX4 26 "UmbrellaVote" "pad" "LUmbrellaVote$Pad;", Cond.fieldLink RX4 93 "UmbrellaVote$Pad" "count" "I", Cond.fieldLink RX4 10 "UmbrellaVote" "city" "LUmbrellaVote$City;", Cond.fieldLink RX4 58 "UmbrellaVote$City" "there" "I", Cond.fieldLink RX4 84 "UmbrellaVote$City" "spread" "I", Cond.fieldLink RX4 87 "UmbrellaVote$City" "shade" "I", Cond.fieldLink RX4 81 "UmbrellaVote$City" "tables" "I", Cond.fieldLink RX4 185 "UmbrellaVote$City" "sights" "I", Cond.fieldLink RX4 130 "UmbrellaVote$City" "weights" "[I", Cond.methodLink RX4 46 yX4_within, Cond.static yX4_within, Cond.initialized RX4, Cond.code yX4_within cX4_within 3 (some .boolean), Cond.methodLink RX4 202 yX4_toldOfPerson, Cond.instanceMethod yX4_toldOfPerson, Cond.selects RX4 yX4_toldOfPerson yX4_toldOfPerson, Cond.code yX4_toldOfPerson cX4_toldOfPerson 3 (some .int), Cond.fieldLink RX4 170 "UmbrellaVote$City" "places" "[I", Cond.fieldLink RX4 154 "UmbrellaVote$City" "slows" "[I", Cond.fieldLink RX4 66 "UmbrellaVote$City" "cotton" "I", Cond.fieldLink RX4 69 "UmbrellaVote$City" "holes" "I", Cond.methodLink RX4 78 yX0_isThere, Cond.instanceMethod yX0_isThere, Cond.selects RX0 yX0_isThere yX0_isThere]
def wsX4_told_r2 : List Cond := [Cond.initialized RX0, Cond.code yX0_isThere cX0_isThere 2 (some .boolean), Cond.fieldLink RX0 40 "UmbrellaVote$City" "there" "I", Cond.static yX4_hasBit, Cond.code yX4_hasBit cX4_hasBit 2 (some .boolean), Cond.methodLink RX4 110 yX4_hasBit]
def wsX4_told : List Cond := .code yX4_told cX4_told 2 (some .int) :: ((wsX4_told_r1 ++ wsX4_told_r2) ++ wsX40 ++ wsX20 ++ wsX00)
def wsX5_init : List Cond := .code yX5_init cX5_init 2 none :: ([.methodLink RX5 1 objectInit, .instanceMethod objectInit, .code objectInit ⟨#[0xb1]⟩ 1 none, .arrayClass .int, .fieldLink RX5 7 "UmbrellaVoteModel" "placeOf" "[I", .fieldLink RX5 13 "UmbrellaVoteModel" "slowOf" "[I", .fieldLink RX5 16 "UmbrellaVoteModel" "partyOf" "[I", .fieldLink RX5 19 "UmbrellaVoteModel" "weight" "[I", .fieldLink RX5 22 "UmbrellaVoteModel" "sightHow" "[I", .fieldLink RX5 25 "UmbrellaVoteModel" "sightOf" "[I", .fieldLink RX5 28 "UmbrellaVoteModel" "pad" "[I", .fieldLink RX5 31 "UmbrellaVoteModel" "years" "[I", .fieldLink RX5 34 "UmbrellaVoteModel" "hadPlace" "[I", .fieldLink RX5 37 "UmbrellaVoteModel" "kept" "[I", .arrayClass .boolean, .fieldLink RX5 40 "UmbrellaVoteModel" "isKept" "[Z", .fieldLink RX5 44 "UmbrellaVoteModel" "spread" "I", .fieldLink RX5 48 "UmbrellaVoteModel" "shade" "I"] ++ wsX50)
def wsX5_in : List Cond := .code yX5_in cX5_in 6 (some .boolean) :: ([])
def wsX5_ones : List Cond := .code yX5_ones cX5_ones 3 (some .int) :: ([])
def wsX5_isPerson : List Cond := .code yX5_isPerson cX5_isPerson 1 (some .boolean) :: ([.constantLong RX5 51 (5), .methodLink RX5 53 yX5_in, .static yX5_in, .initialized RX5, .code yX5_in cX5_in 6 (some .boolean)])
def wsX5_isPlace : List Cond := .code yX5_isPlace cX5_isPlace 1 (some .boolean) :: ([.constantLong RX5 57 (9), .methodLink RX5 53 yX5_in, .static yX5_in, .initialized RX5, .code yX5_in cX5_in 6 (some .boolean)])
def wsX5_isThere : List Cond := .code yX5_isThere cX5_isThere 2 (some .boolean) :: ([.fieldLink RX5 63 "UmbrellaVoteModel" "there" "I", .methodLink RX5 59 yX5_isPerson, .static yX5_isPerson, .initialized RX5, .code yX5_isPerson cX5_isPerson 1 (some .boolean), .constantLong RX5 51 (5), .methodLink RX5 53 yX5_in, .static yX5_in, .code yX5_in cX5_in 6 (some .boolean)] ++ wsX50)
def wsX5_stand : List Cond := .code yX5_stand cX5_stand 6 (some .int) :: ([.constantLong RX5 57 (9), .fieldLink RX5 7 "UmbrellaVoteModel" "placeOf" "[I", .fieldLink RX5 13 "UmbrellaVoteModel" "slowOf" "[I", .fieldLink RX5 16 "UmbrellaVoteModel" "partyOf" "[I", .fieldLink RX5 69 "UmbrellaVoteModel" "holes" "I", .fieldLink RX5 63 "UmbrellaVoteModel" "there" "I", .methodLink RX5 59 yX5_isPerson, .static yX5_isPerson, .initialized RX5, .code yX5_isPerson cX5_isPerson 1 (some .boolean), .constantLong RX5 51 (5), .methodLink RX5 53 yX5_in, .static yX5_in, .code yX5_in cX5_in 6 (some .boolean), .methodLink RX5 66 yX5_isPlace, .static yX5_isPlace, .code yX5_isPlace cX5_isPlace 1 (some .boolean), .methodLink RX5 72 yX5_ones, .static yX5_ones, .code yX5_ones cX5_ones 3 (some .int)] ++ wsX50)
def wsX5_leave : List Cond := .code yX5_leave cX5_leave 2 (some .int) :: ([.fieldLink RX5 63 "UmbrellaVoteModel" "there" "I", .methodLink RX5 76 yX5_isThere, .instanceMethod yX5_isThere, .selects RX5 yX5_isThere yX5_isThere, .initialized RX5, .code yX5_isThere cX5_isThere 2 (some .boolean), .methodLink RX5 59 yX5_isPerson, .static yX5_isPerson, .code yX5_isPerson cX5_isPerson 1 (some .boolean), .constantLong RX5 51 (5), .methodLink RX5 53 yX5_in, .static yX5_in, .code yX5_in cX5_in 6 (some .boolean), .methodLink RX5 72 yX5_ones, .static yX5_ones, .code yX5_ones cX5_ones 3 (some .int)] ++ wsX50)
def wsX5_table : List Cond := .code yX5_table cX5_table 3 (some .int) :: ([.fieldLink RX5 79 "UmbrellaVoteModel" "tables" "I", .methodLink RX5 66 yX5_isPlace, .static yX5_isPlace, .initialized RX5, .code yX5_isPlace cX5_isPlace 1 (some .boolean), .constantLong RX5 57 (9), .methodLink RX5 53 yX5_in, .static yX5_in, .code yX5_in cX5_in 6 (some .boolean)] ++ wsX50)
def wsX5_set : List Cond := .code yX5_set cX5_set 4 (some .int) :: ([.constantLong RX5 57 (9), .fieldLink RX5 44 "UmbrellaVoteModel" "spread" "I", .fieldLink RX5 48 "UmbrellaVoteModel" "shade" "I", .methodLink RX5 53 yX5_in, .static yX5_in, .initialized RX5, .code yX5_in cX5_in 6 (some .boolean)] ++ wsX50)
def wsX5_say : List Cond := .code yX5_say cX5_say 2 (some .int) :: ([.constantLong RX5 82 (33), .constantLong RX5 84 (126), .fieldLink RX5 86 "UmbrellaVoteModel" "padMany" "I", .fieldLink RX5 28 "UmbrellaVoteModel" "pad" "[I", .methodLink RX5 53 yX5_in, .static yX5_in, .initialized RX5, .code yX5_in cX5_in 6 (some .boolean)] ++ wsX50)
def wsX5_wipe : List Cond := .code yX5_wipe cX5_wipe 2 (some .int) :: ([.fieldLink RX5 86 "UmbrellaVoteModel" "padMany" "I"] ++ wsX50)
def wsX5_canStand : List Cond := .code yX5_canStand cX5_canStand 3 (some .boolean) :: ([.constantLong RX5 89 (48), .constantLong RX5 91 (57), .constantLong RX5 93 (65), .constantLong RX5 95 (70), .methodLink RX5 53 yX5_in, .static yX5_in, .initialized RX5, .code yX5_in cX5_in 6 (some .boolean)])
def wsX5_isOpening : List Cond := .code yX5_isOpening cX5_isOpening 2 (some .boolean) :: ([])
def wsX5_fault : List Cond := .code yX5_fault cX5_fault 3 (some .int) :: ([.fieldLink RX5 86 "UmbrellaVoteModel" "padMany" "I", .fieldLink RX5 28 "UmbrellaVoteModel" "pad" "[I", .methodLink RX5 97 yX5_canStand, .static yX5_canStand, .initialized RX5, .code yX5_canStand cX5_canStand 3 (some .boolean), .constantLong RX5 89 (48), .constantLong RX5 91 (57), .constantLong RX5 93 (65), .constantLong RX5 95 (70), .methodLink RX5 53 yX5_in, .static yX5_in, .code yX5_in cX5_in 6 (some .boolean), .methodLink RX5 101 yX5_isOpening, .static yX5_isOpening, .code yX5_isOpening cX5_isOpening 2 (some .boolean)] ++ wsX50)
def wsX5_opensAt : List Cond := .code yX5_opensAt cX5_opensAt 5 (some .int) :: ([.fieldLink RX5 69 "UmbrellaVoteModel" "holes" "I", .fieldLink RX5 7 "UmbrellaVoteModel" "placeOf" "[I", .fieldLink RX5 79 "UmbrellaVoteModel" "tables" "I", .fieldLink RX5 48 "UmbrellaVoteModel" "shade" "I", .fieldLink RX5 44 "UmbrellaVoteModel" "spread" "I", .fieldLink RX5 13 "UmbrellaVoteModel" "slowOf" "[I", .methodLink RX5 76 yX5_isThere, .instanceMethod yX5_isThere, .selects RX5 yX5_isThere yX5_isThere, .initialized RX5, .code yX5_isThere cX5_isThere 2 (some .boolean), .fieldLink RX5 63 "UmbrellaVoteModel" "there" "I", .methodLink RX5 59 yX5_isPerson, .static yX5_isPerson, .code yX5_isPerson cX5_isPerson 1 (some .boolean), .constantLong RX5 51 (5), .methodLink RX5 53 yX5_in, .static yX5_in, .code yX5_in cX5_in 6 (some .boolean)] ++ wsX50)
def wsX5_firstAt : List Cond := .code yX5_firstAt cX5_firstAt 5 (some .int) :: ([.methodLink RX5 104 yX5_opensAt, .instanceMethod yX5_opensAt, .selects RX5 yX5_opensAt yX5_opensAt, .initialized RX5, .code yX5_opensAt cX5_opensAt 5 (some .int), .fieldLink RX5 69 "UmbrellaVoteModel" "holes" "I", .fieldLink RX5 7 "UmbrellaVoteModel" "placeOf" "[I", .fieldLink RX5 79 "UmbrellaVoteModel" "tables" "I", .fieldLink RX5 48 "UmbrellaVoteModel" "shade" "I", .fieldLink RX5 44 "UmbrellaVoteModel" "spread" "I", .fieldLink RX5 13 "UmbrellaVoteModel" "slowOf" "[I", .methodLink RX5 76 yX5_isThere, .instanceMethod yX5_isThere, .selects RX5 yX5_isThere yX5_isThere, .code yX5_isThere cX5_isThere 2 (some .boolean), .fieldLink RX5 63 "UmbrellaVoteModel" "there" "I", .methodLink RX5 59 yX5_isPerson, .static yX5_isPerson, .code yX5_isPerson cX5_isPerson 1 (some .boolean), .constantLong RX5 51 (5), .methodLink RX5 53 yX5_in, .static yX5_in, .code yX5_in cX5_in 6 (some .boolean)] ++ wsX50)
def wsX5_rulersBy_r1 : List Cond := [Cond.methodLink RX5 108 yX5_firstAt, Cond.instanceMethod yX5_firstAt, Cond.selects RX5 yX5_firstAt yX5_firstAt, Cond.initialized RX5, Cond.code yX5_firstAt cX5_firstAt 5 (some .int), Cond.methodLink RX5 104 yX5_opensAt, Cond.instanceMethod yX5_opensAt, Cond.selects RX5 yX5_opensAt yX5_opensAt, Cond.code yX5_opensAt cX5_opensAt 5 (some .int), Cond.fieldLink RX5 69 "UmbrellaVoteModel" "holes" "I", Cond.fieldLink RX5 7 "UmbrellaVoteModel" "placeOf" "[I", Cond.fieldLink RX5 79 "UmbrellaVoteModel" "tables" "I", Cond.fieldLink RX5 48 "UmbrellaVoteModel" "shade" "I", Cond.fieldLink RX5 44 "UmbrellaVoteModel" "spread" "I", Cond.fieldLink RX5 13 "UmbrellaVoteModel" "slowOf" "[I", Cond.methodLink RX5 76 yX5_isThere, Cond.instanceMethod yX5_isThere, Cond.selects RX5 yX5_isThere yX5_isThere, Cond.code yX5_isThere cX5_isThere 2 (some .boolean), Cond.fieldLink RX5 63 "UmbrellaVoteModel" "there" "I", Cond.methodLink RX5 59 yX5_isPerson, Cond.static yX5_isPerson, Cond.code yX5_isPerson cX5_isPerson 1 (some .boolean), Cond.constantLong RX5 51 (5)]
def wsX5_rulersBy_r2 : List Cond := [Cond.methodLink RX5 53 yX5_in, Cond.static yX5_in, Cond.code yX5_in cX5_in 6 (some .boolean)]
def wsX5_rulersBy : List Cond := .code yX5_rulersBy cX5_rulersBy 5 (some .int) :: ((wsX5_rulersBy_r1 ++ wsX5_rulersBy_r2) ++ wsX50)
def wsX5_sprinkledBy : List Cond := .code yX5_sprinkledBy cX5_sprinkledBy 5 (some .int) :: ([.fieldLink RX5 7 "UmbrellaVoteModel" "placeOf" "[I", .methodLink RX5 104 yX5_opensAt, .instanceMethod yX5_opensAt, .selects RX5 yX5_opensAt yX5_opensAt, .initialized RX5, .code yX5_opensAt cX5_opensAt 5 (some .int), .fieldLink RX5 69 "UmbrellaVoteModel" "holes" "I", .fieldLink RX5 79 "UmbrellaVoteModel" "tables" "I", .fieldLink RX5 48 "UmbrellaVoteModel" "shade" "I", .fieldLink RX5 44 "UmbrellaVoteModel" "spread" "I", .fieldLink RX5 13 "UmbrellaVoteModel" "slowOf" "[I", .methodLink RX5 76 yX5_isThere, .instanceMethod yX5_isThere, .selects RX5 yX5_isThere yX5_isThere, .code yX5_isThere cX5_isThere 2 (some .boolean), .fieldLink RX5 63 "UmbrellaVoteModel" "there" "I", .methodLink RX5 59 yX5_isPerson, .static yX5_isPerson, .code yX5_isPerson cX5_isPerson 1 (some .boolean), .constantLong RX5 51 (5), .methodLink RX5 53 yX5_in, .static yX5_in, .code yX5_in cX5_in 6 (some .boolean)] ++ wsX50)
def wsX5_rules_r1 : List Cond := [Cond.methodLink RX5 66 yX5_isPlace, Cond.static yX5_isPlace, Cond.initialized RX5, Cond.code yX5_isPlace cX5_isPlace 1 (some .boolean), Cond.constantLong RX5 57 (9), Cond.methodLink RX5 53 yX5_in, Cond.static yX5_in, Cond.code yX5_in cX5_in 6 (some .boolean), Cond.methodLink RX5 108 yX5_firstAt, Cond.instanceMethod yX5_firstAt, Cond.selects RX5 yX5_firstAt yX5_firstAt, Cond.code yX5_firstAt cX5_firstAt 5 (some .int), Cond.methodLink RX5 104 yX5_opensAt, Cond.instanceMethod yX5_opensAt, Cond.selects RX5 yX5_opensAt yX5_opensAt, Cond.code yX5_opensAt cX5_opensAt 5 (some .int), Cond.fieldLink RX5 69 "UmbrellaVoteModel" "holes" "I", Cond.fieldLink RX5 7 "UmbrellaVoteModel" "placeOf" "[I", Cond.fieldLink RX5 79 "UmbrellaVoteModel" "tables" "I", Cond.fieldLink RX5 48 "UmbrellaVoteModel" "shade" "I", Cond.fieldLink RX5 44 "UmbrellaVoteModel" "spread" "I", Cond.fieldLink RX5 13 "UmbrellaVoteModel" "slowOf" "[I", Cond.methodLink RX5 76 yX5_isThere, Cond.instanceMethod yX5_isThere]
def wsX5_rules_r2 : List Cond := [Cond.selects RX5 yX5_isThere yX5_isThere, Cond.code yX5_isThere cX5_isThere 2 (some .boolean), Cond.fieldLink RX5 63 "UmbrellaVoteModel" "there" "I", Cond.methodLink RX5 59 yX5_isPerson, Cond.static yX5_isPerson, Cond.code yX5_isPerson cX5_isPerson 1 (some .boolean), Cond.constantLong RX5 51 (5), Cond.methodLink RX5 111 yX5_rulersBy, Cond.instanceMethod yX5_rulersBy, Cond.selects RX5 yX5_rulersBy yX5_rulersBy, Cond.code yX5_rulersBy cX5_rulersBy 5 (some .int)]
def wsX5_rules : List Cond := .code yX5_rules cX5_rules 4 (some .int) :: ((wsX5_rules_r1 ++ wsX5_rules_r2) ++ wsX50)
def wsX5_opens_r1 : List Cond := [Cond.methodLink RX5 76 yX5_isThere, Cond.instanceMethod yX5_isThere, Cond.selects RX5 yX5_isThere yX5_isThere, Cond.initialized RX5, Cond.code yX5_isThere cX5_isThere 2 (some .boolean), Cond.fieldLink RX5 63 "UmbrellaVoteModel" "there" "I", Cond.methodLink RX5 59 yX5_isPerson, Cond.static yX5_isPerson, Cond.code yX5_isPerson cX5_isPerson 1 (some .boolean), Cond.constantLong RX5 51 (5), Cond.methodLink RX5 53 yX5_in, Cond.static yX5_in, Cond.code yX5_in cX5_in 6 (some .boolean), Cond.methodLink RX5 66 yX5_isPlace, Cond.static yX5_isPlace, Cond.code yX5_isPlace cX5_isPlace 1 (some .boolean), Cond.constantLong RX5 57 (9), Cond.methodLink RX5 104 yX5_opensAt, Cond.instanceMethod yX5_opensAt, Cond.selects RX5 yX5_opensAt yX5_opensAt, Cond.code yX5_opensAt cX5_opensAt 5 (some .int), Cond.fieldLink RX5 69 "UmbrellaVoteModel" "holes" "I", Cond.fieldLink RX5 7 "UmbrellaVoteModel" "placeOf" "[I", Cond.fieldLink RX5 79 "UmbrellaVoteModel" "tables" "I"]
def wsX5_opens_r2 : List Cond := [Cond.fieldLink RX5 48 "UmbrellaVoteModel" "shade" "I", Cond.fieldLink RX5 44 "UmbrellaVoteModel" "spread" "I", Cond.fieldLink RX5 13 "UmbrellaVoteModel" "slowOf" "[I"]
def wsX5_opens : List Cond := .code yX5_opens cX5_opens 4 (some .int) :: ((wsX5_opens_r1 ++ wsX5_opens_r2) ++ wsX50)
def wsX5_never_r1 : List Cond := [Cond.fieldLink RX5 63 "UmbrellaVoteModel" "there" "I", Cond.methodLink RX5 111 yX5_rulersBy, Cond.instanceMethod yX5_rulersBy, Cond.selects RX5 yX5_rulersBy yX5_rulersBy, Cond.initialized RX5, Cond.code yX5_rulersBy cX5_rulersBy 5 (some .int), Cond.methodLink RX5 108 yX5_firstAt, Cond.instanceMethod yX5_firstAt, Cond.selects RX5 yX5_firstAt yX5_firstAt, Cond.code yX5_firstAt cX5_firstAt 5 (some .int), Cond.methodLink RX5 104 yX5_opensAt, Cond.instanceMethod yX5_opensAt, Cond.selects RX5 yX5_opensAt yX5_opensAt, Cond.code yX5_opensAt cX5_opensAt 5 (some .int), Cond.fieldLink RX5 69 "UmbrellaVoteModel" "holes" "I", Cond.fieldLink RX5 7 "UmbrellaVoteModel" "placeOf" "[I", Cond.fieldLink RX5 79 "UmbrellaVoteModel" "tables" "I", Cond.fieldLink RX5 48 "UmbrellaVoteModel" "shade" "I", Cond.fieldLink RX5 44 "UmbrellaVoteModel" "spread" "I", Cond.fieldLink RX5 13 "UmbrellaVoteModel" "slowOf" "[I", Cond.methodLink RX5 76 yX5_isThere, Cond.instanceMethod yX5_isThere, Cond.selects RX5 yX5_isThere yX5_isThere, Cond.code yX5_isThere cX5_isThere 2 (some .boolean)]
def wsX5_never_r2 : List Cond := [Cond.methodLink RX5 59 yX5_isPerson, Cond.static yX5_isPerson, Cond.code yX5_isPerson cX5_isPerson 1 (some .boolean), Cond.constantLong RX5 51 (5), Cond.methodLink RX5 53 yX5_in, Cond.static yX5_in, Cond.code yX5_in cX5_in 6 (some .boolean)]
def wsX5_never : List Cond := .code yX5_never cX5_never 3 (some .int) :: ((wsX5_never_r1 ++ wsX5_never_r2) ++ wsX50)
def wsX5_rule : List Cond := .code yX5_rule cX5_rule 2 none :: ([.fieldLink RX5 114 "UmbrellaVoteModel" "reigns" "I", .fieldLink RX5 117 "UmbrellaVoteModel" "ruling" "I"] ++ wsX50)
def wsX5_goYears : List Cond := .code yX5_goYears cX5_goYears 5 none :: ([.fieldLink RX5 117 "UmbrellaVoteModel" "ruling" "I", .fieldLink RX5 31 "UmbrellaVoteModel" "years" "[I", .fieldLink RX5 16 "UmbrellaVoteModel" "partyOf" "[I"] ++ wsX50)
def wsX5_happen_r1 : List Cond := [Cond.fieldLink RX5 69 "UmbrellaVoteModel" "holes" "I", Cond.fieldLink RX5 117 "UmbrellaVoteModel" "ruling" "I", Cond.methodLink RX5 120 yX5_goYears, Cond.instanceMethod yX5_goYears, Cond.selects RX5 yX5_goYears yX5_goYears, Cond.initialized RX5, Cond.code yX5_goYears cX5_goYears 5 none, Cond.fieldLink RX5 31 "UmbrellaVoteModel" "years" "[I", Cond.fieldLink RX5 16 "UmbrellaVoteModel" "partyOf" "[I", Cond.methodLink RX5 124 yX5_rule, Cond.instanceMethod yX5_rule, Cond.selects RX5 yX5_rule yX5_rule, Cond.code yX5_rule cX5_rule 2 none, Cond.fieldLink RX5 114 "UmbrellaVoteModel" "reigns" "I", Cond.methodLink RX5 76 yX5_isThere, Cond.instanceMethod yX5_isThere, Cond.selects RX5 yX5_isThere yX5_isThere, Cond.code yX5_isThere cX5_isThere 2 (some .boolean), Cond.fieldLink RX5 63 "UmbrellaVoteModel" "there" "I", Cond.methodLink RX5 59 yX5_isPerson, Cond.static yX5_isPerson, Cond.code yX5_isPerson cX5_isPerson 1 (some .boolean), Cond.constantLong RX5 51 (5), Cond.methodLink RX5 53 yX5_in]
def wsX5_happen_r2 : List Cond := [Cond.static yX5_in, Cond.code yX5_in cX5_in 6 (some .boolean), Cond.methodLink RX5 111 yX5_rulersBy, Cond.instanceMethod yX5_rulersBy, Cond.selects RX5 yX5_rulersBy yX5_rulersBy, Cond.code yX5_rulersBy cX5_rulersBy 5 (some .int), Cond.methodLink RX5 108 yX5_firstAt, Cond.instanceMethod yX5_firstAt, Cond.selects RX5 yX5_firstAt yX5_firstAt, Cond.code yX5_firstAt cX5_firstAt 5 (some .int), Cond.methodLink RX5 104 yX5_opensAt, Cond.instanceMethod yX5_opensAt, Cond.selects RX5 yX5_opensAt yX5_opensAt, Cond.code yX5_opensAt cX5_opensAt 5 (some .int), Cond.fieldLink RX5 7 "UmbrellaVoteModel" "placeOf" "[I", Cond.fieldLink RX5 79 "UmbrellaVoteModel" "tables" "I", Cond.fieldLink RX5 48 "UmbrellaVoteModel" "shade" "I", Cond.fieldLink RX5 44 "UmbrellaVoteModel" "spread" "I", Cond.fieldLink RX5 13 "UmbrellaVoteModel" "slowOf" "[I", Cond.methodLink RX5 127 yX5_sprinkledBy, Cond.instanceMethod yX5_sprinkledBy, Cond.selects RX5 yX5_sprinkledBy yX5_sprinkledBy, Cond.code yX5_sprinkledBy cX5_sprinkledBy 5 (some .int)]
def wsX5_happen : List Cond := .code yX5_happen cX5_happen 4 none :: ((wsX5_happen_r1 ++ wsX5_happen_r2) ++ wsX50)
def wsX5_goParts_r1 : List Cond := [Cond.fieldLink RX5 31 "UmbrellaVoteModel" "years" "[I", Cond.fieldLink RX5 114 "UmbrellaVoteModel" "reigns" "I", Cond.fieldLink RX5 117 "UmbrellaVoteModel" "ruling" "I", Cond.fieldLink RX5 69 "UmbrellaVoteModel" "holes" "I", Cond.fieldLink RX5 86 "UmbrellaVoteModel" "padMany" "I", Cond.fieldLink RX5 28 "UmbrellaVoteModel" "pad" "[I", Cond.methodLink RX5 101 yX5_isOpening, Cond.static yX5_isOpening, Cond.initialized RX5, Cond.code yX5_isOpening cX5_isOpening 2 (some .boolean), Cond.methodLink RX5 130 yX5_happen, Cond.instanceMethod yX5_happen, Cond.selects RX5 yX5_happen yX5_happen, Cond.code yX5_happen cX5_happen 4 none, Cond.methodLink RX5 120 yX5_goYears, Cond.instanceMethod yX5_goYears, Cond.selects RX5 yX5_goYears yX5_goYears, Cond.code yX5_goYears cX5_goYears 5 none, Cond.fieldLink RX5 16 "UmbrellaVoteModel" "partyOf" "[I", Cond.methodLink RX5 124 yX5_rule, Cond.instanceMethod yX5_rule, Cond.selects RX5 yX5_rule yX5_rule, Cond.code yX5_rule cX5_rule 2 none, Cond.methodLink RX5 76 yX5_isThere]
def wsX5_goParts_r2 : List Cond := [Cond.instanceMethod yX5_isThere, Cond.selects RX5 yX5_isThere yX5_isThere, Cond.code yX5_isThere cX5_isThere 2 (some .boolean), Cond.fieldLink RX5 63 "UmbrellaVoteModel" "there" "I", Cond.methodLink RX5 59 yX5_isPerson, Cond.static yX5_isPerson, Cond.code yX5_isPerson cX5_isPerson 1 (some .boolean), Cond.constantLong RX5 51 (5), Cond.methodLink RX5 53 yX5_in, Cond.static yX5_in, Cond.code yX5_in cX5_in 6 (some .boolean), Cond.methodLink RX5 111 yX5_rulersBy, Cond.instanceMethod yX5_rulersBy, Cond.selects RX5 yX5_rulersBy yX5_rulersBy, Cond.code yX5_rulersBy cX5_rulersBy 5 (some .int), Cond.methodLink RX5 108 yX5_firstAt, Cond.instanceMethod yX5_firstAt, Cond.selects RX5 yX5_firstAt yX5_firstAt, Cond.code yX5_firstAt cX5_firstAt 5 (some .int), Cond.methodLink RX5 104 yX5_opensAt, Cond.instanceMethod yX5_opensAt, Cond.selects RX5 yX5_opensAt yX5_opensAt, Cond.code yX5_opensAt cX5_opensAt 5 (some .int), Cond.fieldLink RX5 7 "UmbrellaVoteModel" "placeOf" "[I"]
def wsX5_goParts_r3 : List Cond := [Cond.fieldLink RX5 79 "UmbrellaVoteModel" "tables" "I", Cond.fieldLink RX5 48 "UmbrellaVoteModel" "shade" "I", Cond.fieldLink RX5 44 "UmbrellaVoteModel" "spread" "I", Cond.fieldLink RX5 13 "UmbrellaVoteModel" "slowOf" "[I", Cond.methodLink RX5 127 yX5_sprinkledBy, Cond.instanceMethod yX5_sprinkledBy, Cond.selects RX5 yX5_sprinkledBy yX5_sprinkledBy, Cond.code yX5_sprinkledBy cX5_sprinkledBy 5 (some .int)]
def wsX5_goParts : List Cond := .code yX5_goParts cX5_goParts 6 (some .int) :: ((wsX5_goParts_r1 ++ (wsX5_goParts_r2 ++ wsX5_goParts_r3)) ++ wsX50)
def wsX5_reign_r1 : List Cond := [Cond.constantLong RX5 141 (-1), Cond.fieldLink RX5 117 "UmbrellaVoteModel" "ruling" "I", Cond.methodLink RX5 134 yX5_fault, Cond.instanceMethod yX5_fault, Cond.selects RX5 yX5_fault yX5_fault, Cond.initialized RX5, Cond.code yX5_fault cX5_fault 3 (some .int), Cond.fieldLink RX5 86 "UmbrellaVoteModel" "padMany" "I", Cond.fieldLink RX5 28 "UmbrellaVoteModel" "pad" "[I", Cond.methodLink RX5 97 yX5_canStand, Cond.static yX5_canStand, Cond.code yX5_canStand cX5_canStand 3 (some .boolean), Cond.constantLong RX5 89 (48), Cond.constantLong RX5 91 (57), Cond.constantLong RX5 93 (65), Cond.constantLong RX5 95 (70), Cond.methodLink RX5 53 yX5_in, Cond.static yX5_in, Cond.code yX5_in cX5_in 6 (some .boolean), Cond.methodLink RX5 101 yX5_isOpening, Cond.static yX5_isOpening, Cond.code yX5_isOpening cX5_isOpening 2 (some .boolean), Cond.methodLink RX5 138 yX5_goParts, Cond.instanceMethod yX5_goParts]
def wsX5_reign_r2 : List Cond := [Cond.selects RX5 yX5_goParts yX5_goParts, Cond.code yX5_goParts cX5_goParts 6 (some .int), Cond.fieldLink RX5 31 "UmbrellaVoteModel" "years" "[I", Cond.fieldLink RX5 114 "UmbrellaVoteModel" "reigns" "I", Cond.fieldLink RX5 69 "UmbrellaVoteModel" "holes" "I", Cond.methodLink RX5 130 yX5_happen, Cond.instanceMethod yX5_happen, Cond.selects RX5 yX5_happen yX5_happen, Cond.code yX5_happen cX5_happen 4 none, Cond.methodLink RX5 120 yX5_goYears, Cond.instanceMethod yX5_goYears, Cond.selects RX5 yX5_goYears yX5_goYears, Cond.code yX5_goYears cX5_goYears 5 none, Cond.fieldLink RX5 16 "UmbrellaVoteModel" "partyOf" "[I", Cond.methodLink RX5 124 yX5_rule, Cond.instanceMethod yX5_rule, Cond.selects RX5 yX5_rule yX5_rule, Cond.code yX5_rule cX5_rule 2 none, Cond.methodLink RX5 76 yX5_isThere, Cond.instanceMethod yX5_isThere, Cond.selects RX5 yX5_isThere yX5_isThere, Cond.code yX5_isThere cX5_isThere 2 (some .boolean), Cond.fieldLink RX5 63 "UmbrellaVoteModel" "there" "I", Cond.methodLink RX5 59 yX5_isPerson]
def wsX5_reign_r3 : List Cond := [Cond.static yX5_isPerson, Cond.code yX5_isPerson cX5_isPerson 1 (some .boolean), Cond.constantLong RX5 51 (5), Cond.methodLink RX5 111 yX5_rulersBy, Cond.instanceMethod yX5_rulersBy, Cond.selects RX5 yX5_rulersBy yX5_rulersBy, Cond.code yX5_rulersBy cX5_rulersBy 5 (some .int), Cond.methodLink RX5 108 yX5_firstAt, Cond.instanceMethod yX5_firstAt, Cond.selects RX5 yX5_firstAt yX5_firstAt, Cond.code yX5_firstAt cX5_firstAt 5 (some .int), Cond.methodLink RX5 104 yX5_opensAt, Cond.instanceMethod yX5_opensAt, Cond.selects RX5 yX5_opensAt yX5_opensAt, Cond.code yX5_opensAt cX5_opensAt 5 (some .int), Cond.fieldLink RX5 7 "UmbrellaVoteModel" "placeOf" "[I", Cond.fieldLink RX5 79 "UmbrellaVoteModel" "tables" "I", Cond.fieldLink RX5 48 "UmbrellaVoteModel" "shade" "I", Cond.fieldLink RX5 44 "UmbrellaVoteModel" "spread" "I", Cond.fieldLink RX5 13 "UmbrellaVoteModel" "slowOf" "[I", Cond.methodLink RX5 127 yX5_sprinkledBy, Cond.instanceMethod yX5_sprinkledBy, Cond.selects RX5 yX5_sprinkledBy yX5_sprinkledBy, Cond.code yX5_sprinkledBy cX5_sprinkledBy 5 (some .int)]
def wsX5_reign : List Cond := .code yX5_reign cX5_reign 3 (some .int) :: ((wsX5_reign_r1 ++ (wsX5_reign_r2 ++ wsX5_reign_r3)) ++ wsX50)
def wsX5_years_r1 : List Cond := [Cond.constantLong RX5 57 (9), Cond.fieldLink RX5 114 "UmbrellaVoteModel" "reigns" "I", Cond.fieldLink RX5 31 "UmbrellaVoteModel" "years" "[I", Cond.methodLink RX5 134 yX5_fault, Cond.instanceMethod yX5_fault, Cond.selects RX5 yX5_fault yX5_fault, Cond.initialized RX5, Cond.code yX5_fault cX5_fault 3 (some .int), Cond.fieldLink RX5 86 "UmbrellaVoteModel" "padMany" "I", Cond.fieldLink RX5 28 "UmbrellaVoteModel" "pad" "[I", Cond.methodLink RX5 97 yX5_canStand, Cond.static yX5_canStand, Cond.code yX5_canStand cX5_canStand 3 (some .boolean), Cond.constantLong RX5 89 (48), Cond.constantLong RX5 91 (57), Cond.constantLong RX5 93 (65), Cond.constantLong RX5 95 (70), Cond.methodLink RX5 53 yX5_in, Cond.static yX5_in, Cond.code yX5_in cX5_in 6 (some .boolean), Cond.methodLink RX5 101 yX5_isOpening, Cond.static yX5_isOpening, Cond.code yX5_isOpening cX5_isOpening 2 (some .boolean), Cond.methodLink RX5 138 yX5_goParts]
def wsX5_years_r2 : List Cond := [Cond.instanceMethod yX5_goParts, Cond.selects RX5 yX5_goParts yX5_goParts, Cond.code yX5_goParts cX5_goParts 6 (some .int), Cond.fieldLink RX5 117 "UmbrellaVoteModel" "ruling" "I", Cond.fieldLink RX5 69 "UmbrellaVoteModel" "holes" "I", Cond.methodLink RX5 130 yX5_happen, Cond.instanceMethod yX5_happen, Cond.selects RX5 yX5_happen yX5_happen, Cond.code yX5_happen cX5_happen 4 none, Cond.methodLink RX5 120 yX5_goYears, Cond.instanceMethod yX5_goYears, Cond.selects RX5 yX5_goYears yX5_goYears, Cond.code yX5_goYears cX5_goYears 5 none, Cond.fieldLink RX5 16 "UmbrellaVoteModel" "partyOf" "[I", Cond.methodLink RX5 124 yX5_rule, Cond.instanceMethod yX5_rule, Cond.selects RX5 yX5_rule yX5_rule, Cond.code yX5_rule cX5_rule 2 none, Cond.methodLink RX5 76 yX5_isThere, Cond.instanceMethod yX5_isThere, Cond.selects RX5 yX5_isThere yX5_isThere, Cond.code yX5_isThere cX5_isThere 2 (some .boolean), Cond.fieldLink RX5 63 "UmbrellaVoteModel" "there" "I", Cond.methodLink RX5 59 yX5_isPerson]
def wsX5_years_r3 : List Cond := [Cond.static yX5_isPerson, Cond.code yX5_isPerson cX5_isPerson 1 (some .boolean), Cond.constantLong RX5 51 (5), Cond.methodLink RX5 111 yX5_rulersBy, Cond.instanceMethod yX5_rulersBy, Cond.selects RX5 yX5_rulersBy yX5_rulersBy, Cond.code yX5_rulersBy cX5_rulersBy 5 (some .int), Cond.methodLink RX5 108 yX5_firstAt, Cond.instanceMethod yX5_firstAt, Cond.selects RX5 yX5_firstAt yX5_firstAt, Cond.code yX5_firstAt cX5_firstAt 5 (some .int), Cond.methodLink RX5 104 yX5_opensAt, Cond.instanceMethod yX5_opensAt, Cond.selects RX5 yX5_opensAt yX5_opensAt, Cond.code yX5_opensAt cX5_opensAt 5 (some .int), Cond.fieldLink RX5 7 "UmbrellaVoteModel" "placeOf" "[I", Cond.fieldLink RX5 79 "UmbrellaVoteModel" "tables" "I", Cond.fieldLink RX5 48 "UmbrellaVoteModel" "shade" "I", Cond.fieldLink RX5 44 "UmbrellaVoteModel" "spread" "I", Cond.fieldLink RX5 13 "UmbrellaVoteModel" "slowOf" "[I", Cond.methodLink RX5 127 yX5_sprinkledBy, Cond.instanceMethod yX5_sprinkledBy, Cond.selects RX5 yX5_sprinkledBy yX5_sprinkledBy, Cond.code yX5_sprinkledBy cX5_sprinkledBy 5 (some .int)]
def wsX5_years : List Cond := .code yX5_years cX5_years 2 (some .int) :: ((wsX5_years_r1 ++ (wsX5_years_r2 ++ wsX5_years_r3)) ++ wsX50)
def wsX5_weights : List Cond := .code yX5_weights cX5_weights 3 (some .int) :: ([.fieldLink RX5 19 "UmbrellaVoteModel" "weight" "[I"] ++ wsX50)
def wsX5_weight : List Cond := .code yX5_weight cX5_weight 4 (some .int) :: ([.constantLong RX5 57 (9), .fieldLink RX5 19 "UmbrellaVoteModel" "weight" "[I", .methodLink RX5 66 yX5_isPlace, .static yX5_isPlace, .initialized RX5, .code yX5_isPlace cX5_isPlace 1 (some .boolean), .methodLink RX5 53 yX5_in, .static yX5_in, .code yX5_in cX5_in 6 (some .boolean), .methodLink RX5 143 yX5_weights, .instanceMethod yX5_weights, .selects RX5 yX5_weights yX5_weights, .code yX5_weights cX5_weights 3 (some .int)] ++ wsX50)
def wsX5_sixtieths_r1 : List Cond := [Cond.fieldLink RX5 16 "UmbrellaVoteModel" "partyOf" "[I", Cond.fieldLink RX5 19 "UmbrellaVoteModel" "weight" "[I", Cond.methodLink RX5 111 yX5_rulersBy, Cond.instanceMethod yX5_rulersBy, Cond.selects RX5 yX5_rulersBy yX5_rulersBy, Cond.initialized RX5, Cond.code yX5_rulersBy cX5_rulersBy 5 (some .int), Cond.methodLink RX5 108 yX5_firstAt, Cond.instanceMethod yX5_firstAt, Cond.selects RX5 yX5_firstAt yX5_firstAt, Cond.code yX5_firstAt cX5_firstAt 5 (some .int), Cond.methodLink RX5 104 yX5_opensAt, Cond.instanceMethod yX5_opensAt, Cond.selects RX5 yX5_opensAt yX5_opensAt, Cond.code yX5_opensAt cX5_opensAt 5 (some .int), Cond.fieldLink RX5 69 "UmbrellaVoteModel" "holes" "I", Cond.fieldLink RX5 7 "UmbrellaVoteModel" "placeOf" "[I", Cond.fieldLink RX5 79 "UmbrellaVoteModel" "tables" "I", Cond.fieldLink RX5 48 "UmbrellaVoteModel" "shade" "I", Cond.fieldLink RX5 44 "UmbrellaVoteModel" "spread" "I", Cond.fieldLink RX5 13 "UmbrellaVoteModel" "slowOf" "[I", Cond.methodLink RX5 76 yX5_isThere, Cond.instanceMethod yX5_isThere, Cond.selects RX5 yX5_isThere yX5_isThere]
def wsX5_sixtieths_r2 : List Cond := [Cond.code yX5_isThere cX5_isThere 2 (some .boolean), Cond.fieldLink RX5 63 "UmbrellaVoteModel" "there" "I", Cond.methodLink RX5 59 yX5_isPerson, Cond.static yX5_isPerson, Cond.code yX5_isPerson cX5_isPerson 1 (some .boolean), Cond.constantLong RX5 51 (5), Cond.methodLink RX5 53 yX5_in, Cond.static yX5_in, Cond.code yX5_in cX5_in 6 (some .boolean), Cond.methodLink RX5 72 yX5_ones, Cond.static yX5_ones, Cond.code yX5_ones cX5_ones 3 (some .int)]
def wsX5_sixtieths : List Cond := .code yX5_sixtieths cX5_sixtieths 8 (some .int) :: ((wsX5_sixtieths_r1 ++ wsX5_sixtieths_r2) ++ wsX50)
def wsX5_lowest : List Cond := .code yX5_lowest cX5_lowest 11 (some .long) :: ([])
def wsX5_chance_r1 : List Cond := [Cond.constantLong RX5 146 (6), Cond.constantLong RX5 148 (7), Cond.constantLong RX5 150 (-1000000000000000001), Cond.constantLong RX5 159 (-1000000000000000002), Cond.methodLink RX5 76 yX5_isThere, Cond.instanceMethod yX5_isThere, Cond.selects RX5 yX5_isThere yX5_isThere, Cond.initialized RX5, Cond.code yX5_isThere cX5_isThere 2 (some .boolean), Cond.fieldLink RX5 63 "UmbrellaVoteModel" "there" "I", Cond.methodLink RX5 59 yX5_isPerson, Cond.static yX5_isPerson, Cond.code yX5_isPerson cX5_isPerson 1 (some .boolean), Cond.constantLong RX5 51 (5), Cond.methodLink RX5 53 yX5_in, Cond.static yX5_in, Cond.code yX5_in cX5_in 6 (some .boolean), Cond.methodLink RX5 152 yX5_sixtieths, Cond.instanceMethod yX5_sixtieths, Cond.selects RX5 yX5_sixtieths yX5_sixtieths, Cond.code yX5_sixtieths cX5_sixtieths 8 (some .int), Cond.fieldLink RX5 16 "UmbrellaVoteModel" "partyOf" "[I", Cond.fieldLink RX5 19 "UmbrellaVoteModel" "weight" "[I", Cond.methodLink RX5 111 yX5_rulersBy]
def wsX5_chance_r2 : List Cond := [Cond.instanceMethod yX5_rulersBy, Cond.selects RX5 yX5_rulersBy yX5_rulersBy, Cond.code yX5_rulersBy cX5_rulersBy 5 (some .int), Cond.methodLink RX5 108 yX5_firstAt, Cond.instanceMethod yX5_firstAt, Cond.selects RX5 yX5_firstAt yX5_firstAt, Cond.code yX5_firstAt cX5_firstAt 5 (some .int), Cond.methodLink RX5 104 yX5_opensAt, Cond.instanceMethod yX5_opensAt, Cond.selects RX5 yX5_opensAt yX5_opensAt, Cond.code yX5_opensAt cX5_opensAt 5 (some .int), Cond.fieldLink RX5 69 "UmbrellaVoteModel" "holes" "I", Cond.fieldLink RX5 7 "UmbrellaVoteModel" "placeOf" "[I", Cond.fieldLink RX5 79 "UmbrellaVoteModel" "tables" "I", Cond.fieldLink RX5 48 "UmbrellaVoteModel" "shade" "I", Cond.fieldLink RX5 44 "UmbrellaVoteModel" "spread" "I", Cond.fieldLink RX5 13 "UmbrellaVoteModel" "slowOf" "[I", Cond.methodLink RX5 72 yX5_ones, Cond.static yX5_ones, Cond.code yX5_ones cX5_ones 3 (some .int), Cond.methodLink RX5 143 yX5_weights, Cond.instanceMethod yX5_weights, Cond.selects RX5 yX5_weights yX5_weights, Cond.code yX5_weights cX5_weights 3 (some .int)]
def wsX5_chance_r3 : List Cond := [Cond.methodLink RX5 155 yX5_lowest, Cond.static yX5_lowest, Cond.code yX5_lowest cX5_lowest 11 (some .long)]
def wsX5_chance : List Cond := .code yX5_chance cX5_chance 3 (some .long) :: ((wsX5_chance_r1 ++ (wsX5_chance_r2 ++ wsX5_chance_r3)) ++ wsX50)
def wsX5_findStand_r1 : List Cond := [Cond.fieldLink RX5 7 "UmbrellaVoteModel" "placeOf" "[I", Cond.fieldLink RX5 161 "UmbrellaVoteModel" "bestPlace" "I", Cond.fieldLink RX5 164 "UmbrellaVoteModel" "bestIs" "I", Cond.methodLink RX5 152 yX5_sixtieths, Cond.instanceMethod yX5_sixtieths, Cond.selects RX5 yX5_sixtieths yX5_sixtieths, Cond.initialized RX5, Cond.code yX5_sixtieths cX5_sixtieths 8 (some .int), Cond.fieldLink RX5 16 "UmbrellaVoteModel" "partyOf" "[I", Cond.fieldLink RX5 19 "UmbrellaVoteModel" "weight" "[I", Cond.methodLink RX5 111 yX5_rulersBy, Cond.instanceMethod yX5_rulersBy, Cond.selects RX5 yX5_rulersBy yX5_rulersBy, Cond.code yX5_rulersBy cX5_rulersBy 5 (some .int), Cond.methodLink RX5 108 yX5_firstAt, Cond.instanceMethod yX5_firstAt, Cond.selects RX5 yX5_firstAt yX5_firstAt, Cond.code yX5_firstAt cX5_firstAt 5 (some .int), Cond.methodLink RX5 104 yX5_opensAt, Cond.instanceMethod yX5_opensAt, Cond.selects RX5 yX5_opensAt yX5_opensAt, Cond.code yX5_opensAt cX5_opensAt 5 (some .int), Cond.fieldLink RX5 69 "UmbrellaVoteModel" "holes" "I", Cond.fieldLink RX5 79 "UmbrellaVoteModel" "tables" "I"]
def wsX5_findStand_r2 : List Cond := [Cond.fieldLink RX5 48 "UmbrellaVoteModel" "shade" "I", Cond.fieldLink RX5 44 "UmbrellaVoteModel" "spread" "I", Cond.fieldLink RX5 13 "UmbrellaVoteModel" "slowOf" "[I", Cond.methodLink RX5 76 yX5_isThere, Cond.instanceMethod yX5_isThere, Cond.selects RX5 yX5_isThere yX5_isThere, Cond.code yX5_isThere cX5_isThere 2 (some .boolean), Cond.fieldLink RX5 63 "UmbrellaVoteModel" "there" "I", Cond.methodLink RX5 59 yX5_isPerson, Cond.static yX5_isPerson, Cond.code yX5_isPerson cX5_isPerson 1 (some .boolean), Cond.constantLong RX5 51 (5), Cond.methodLink RX5 53 yX5_in, Cond.static yX5_in, Cond.code yX5_in cX5_in 6 (some .boolean), Cond.methodLink RX5 72 yX5_ones, Cond.static yX5_ones, Cond.code yX5_ones cX5_ones 3 (some .int)]
def wsX5_findStand : List Cond := .code yX5_findStand cX5_findStand 5 none :: ((wsX5_findStand_r1 ++ wsX5_findStand_r2) ++ wsX50)
def wsX5_best_r1 : List Cond := [Cond.fieldLink RX5 161 "UmbrellaVoteModel" "bestPlace" "I", Cond.methodLink RX5 76 yX5_isThere, Cond.instanceMethod yX5_isThere, Cond.selects RX5 yX5_isThere yX5_isThere, Cond.initialized RX5, Cond.code yX5_isThere cX5_isThere 2 (some .boolean), Cond.fieldLink RX5 63 "UmbrellaVoteModel" "there" "I", Cond.methodLink RX5 59 yX5_isPerson, Cond.static yX5_isPerson, Cond.code yX5_isPerson cX5_isPerson 1 (some .boolean), Cond.constantLong RX5 51 (5), Cond.methodLink RX5 53 yX5_in, Cond.static yX5_in, Cond.code yX5_in cX5_in 6 (some .boolean), Cond.methodLink RX5 167 yX5_findStand, Cond.instanceMethod yX5_findStand, Cond.selects RX5 yX5_findStand yX5_findStand, Cond.code yX5_findStand cX5_findStand 5 none, Cond.fieldLink RX5 7 "UmbrellaVoteModel" "placeOf" "[I", Cond.fieldLink RX5 164 "UmbrellaVoteModel" "bestIs" "I", Cond.methodLink RX5 152 yX5_sixtieths, Cond.instanceMethod yX5_sixtieths, Cond.selects RX5 yX5_sixtieths yX5_sixtieths, Cond.code yX5_sixtieths cX5_sixtieths 8 (some .int)]
def wsX5_best_r2 : List Cond := [Cond.fieldLink RX5 16 "UmbrellaVoteModel" "partyOf" "[I", Cond.fieldLink RX5 19 "UmbrellaVoteModel" "weight" "[I", Cond.methodLink RX5 111 yX5_rulersBy, Cond.instanceMethod yX5_rulersBy, Cond.selects RX5 yX5_rulersBy yX5_rulersBy, Cond.code yX5_rulersBy cX5_rulersBy 5 (some .int), Cond.methodLink RX5 108 yX5_firstAt, Cond.instanceMethod yX5_firstAt, Cond.selects RX5 yX5_firstAt yX5_firstAt, Cond.code yX5_firstAt cX5_firstAt 5 (some .int), Cond.methodLink RX5 104 yX5_opensAt, Cond.instanceMethod yX5_opensAt, Cond.selects RX5 yX5_opensAt yX5_opensAt, Cond.code yX5_opensAt cX5_opensAt 5 (some .int), Cond.fieldLink RX5 69 "UmbrellaVoteModel" "holes" "I", Cond.fieldLink RX5 79 "UmbrellaVoteModel" "tables" "I", Cond.fieldLink RX5 48 "UmbrellaVoteModel" "shade" "I", Cond.fieldLink RX5 44 "UmbrellaVoteModel" "spread" "I", Cond.fieldLink RX5 13 "UmbrellaVoteModel" "slowOf" "[I", Cond.methodLink RX5 72 yX5_ones, Cond.static yX5_ones, Cond.code yX5_ones cX5_ones 3 (some .int)]
def wsX5_best : List Cond := .code yX5_best cX5_best 2 (some .int) :: ((wsX5_best_r1 ++ wsX5_best_r2) ++ wsX50)
def wsX5_bestChance_r1 : List Cond := [Cond.constantLong RX5 150 (-1000000000000000001), Cond.constantLong RX5 159 (-1000000000000000002), Cond.fieldLink RX5 164 "UmbrellaVoteModel" "bestIs" "I", Cond.methodLink RX5 76 yX5_isThere, Cond.instanceMethod yX5_isThere, Cond.selects RX5 yX5_isThere yX5_isThere, Cond.initialized RX5, Cond.code yX5_isThere cX5_isThere 2 (some .boolean), Cond.fieldLink RX5 63 "UmbrellaVoteModel" "there" "I", Cond.methodLink RX5 59 yX5_isPerson, Cond.static yX5_isPerson, Cond.code yX5_isPerson cX5_isPerson 1 (some .boolean), Cond.constantLong RX5 51 (5), Cond.methodLink RX5 53 yX5_in, Cond.static yX5_in, Cond.code yX5_in cX5_in 6 (some .boolean), Cond.methodLink RX5 167 yX5_findStand, Cond.instanceMethod yX5_findStand, Cond.selects RX5 yX5_findStand yX5_findStand, Cond.code yX5_findStand cX5_findStand 5 none, Cond.fieldLink RX5 7 "UmbrellaVoteModel" "placeOf" "[I", Cond.fieldLink RX5 161 "UmbrellaVoteModel" "bestPlace" "I", Cond.methodLink RX5 152 yX5_sixtieths, Cond.instanceMethod yX5_sixtieths]
def wsX5_bestChance_r2 : List Cond := [Cond.selects RX5 yX5_sixtieths yX5_sixtieths, Cond.code yX5_sixtieths cX5_sixtieths 8 (some .int), Cond.fieldLink RX5 16 "UmbrellaVoteModel" "partyOf" "[I", Cond.fieldLink RX5 19 "UmbrellaVoteModel" "weight" "[I", Cond.methodLink RX5 111 yX5_rulersBy, Cond.instanceMethod yX5_rulersBy, Cond.selects RX5 yX5_rulersBy yX5_rulersBy, Cond.code yX5_rulersBy cX5_rulersBy 5 (some .int), Cond.methodLink RX5 108 yX5_firstAt, Cond.instanceMethod yX5_firstAt, Cond.selects RX5 yX5_firstAt yX5_firstAt, Cond.code yX5_firstAt cX5_firstAt 5 (some .int), Cond.methodLink RX5 104 yX5_opensAt, Cond.instanceMethod yX5_opensAt, Cond.selects RX5 yX5_opensAt yX5_opensAt, Cond.code yX5_opensAt cX5_opensAt 5 (some .int), Cond.fieldLink RX5 69 "UmbrellaVoteModel" "holes" "I", Cond.fieldLink RX5 79 "UmbrellaVoteModel" "tables" "I", Cond.fieldLink RX5 48 "UmbrellaVoteModel" "shade" "I", Cond.fieldLink RX5 44 "UmbrellaVoteModel" "spread" "I", Cond.fieldLink RX5 13 "UmbrellaVoteModel" "slowOf" "[I", Cond.methodLink RX5 72 yX5_ones, Cond.static yX5_ones, Cond.code yX5_ones cX5_ones 3 (some .int)]
def wsX5_bestChance_r3 : List Cond := [Cond.methodLink RX5 143 yX5_weights, Cond.instanceMethod yX5_weights, Cond.selects RX5 yX5_weights yX5_weights, Cond.code yX5_weights cX5_weights 3 (some .int), Cond.methodLink RX5 155 yX5_lowest, Cond.static yX5_lowest, Cond.code yX5_lowest cX5_lowest 11 (some .long)]
def wsX5_bestChance : List Cond := .code yX5_bestChance cX5_bestChance 3 (some .long) :: ((wsX5_bestChance_r1 ++ (wsX5_bestChance_r2 ++ wsX5_bestChance_r3)) ++ wsX50)
def wsX5_keepPlaces : List Cond := .code yX5_keepPlaces cX5_keepPlaces 2 none :: ([.fieldLink RX5 34 "UmbrellaVoteModel" "hadPlace" "[I", .fieldLink RX5 7 "UmbrellaVoteModel" "placeOf" "[I"] ++ wsX50)
def wsX5_putPlaces : List Cond := .code yX5_putPlaces cX5_putPlaces 2 none :: ([.fieldLink RX5 7 "UmbrellaVoteModel" "placeOf" "[I", .fieldLink RX5 34 "UmbrellaVoteModel" "hadPlace" "[I"] ++ wsX50)
def wsX5_layPlaces : List Cond := .code yX5_layPlaces cX5_layPlaces 4 none :: ([.fieldLink RX5 7 "UmbrellaVoteModel" "placeOf" "[I", .methodLink RX5 76 yX5_isThere, .instanceMethod yX5_isThere, .selects RX5 yX5_isThere yX5_isThere, .initialized RX5, .code yX5_isThere cX5_isThere 2 (some .boolean), .fieldLink RX5 63 "UmbrellaVoteModel" "there" "I", .methodLink RX5 59 yX5_isPerson, .static yX5_isPerson, .code yX5_isPerson cX5_isPerson 1 (some .boolean), .constantLong RX5 51 (5), .methodLink RX5 53 yX5_in, .static yX5_in, .code yX5_in cX5_in 6 (some .boolean)] ++ wsX50)
def wsX5_areAtRest_r1 : List Cond := [Cond.fieldLink RX5 164 "UmbrellaVoteModel" "bestIs" "I", Cond.methodLink RX5 76 yX5_isThere, Cond.instanceMethod yX5_isThere, Cond.selects RX5 yX5_isThere yX5_isThere, Cond.initialized RX5, Cond.code yX5_isThere cX5_isThere 2 (some .boolean), Cond.fieldLink RX5 63 "UmbrellaVoteModel" "there" "I", Cond.methodLink RX5 59 yX5_isPerson, Cond.static yX5_isPerson, Cond.code yX5_isPerson cX5_isPerson 1 (some .boolean), Cond.constantLong RX5 51 (5), Cond.methodLink RX5 53 yX5_in, Cond.static yX5_in, Cond.code yX5_in cX5_in 6 (some .boolean), Cond.methodLink RX5 152 yX5_sixtieths, Cond.instanceMethod yX5_sixtieths, Cond.selects RX5 yX5_sixtieths yX5_sixtieths, Cond.code yX5_sixtieths cX5_sixtieths 8 (some .int), Cond.fieldLink RX5 16 "UmbrellaVoteModel" "partyOf" "[I", Cond.fieldLink RX5 19 "UmbrellaVoteModel" "weight" "[I", Cond.methodLink RX5 111 yX5_rulersBy, Cond.instanceMethod yX5_rulersBy, Cond.selects RX5 yX5_rulersBy yX5_rulersBy, Cond.code yX5_rulersBy cX5_rulersBy 5 (some .int)]
def wsX5_areAtRest_r2 : List Cond := [Cond.methodLink RX5 108 yX5_firstAt, Cond.instanceMethod yX5_firstAt, Cond.selects RX5 yX5_firstAt yX5_firstAt, Cond.code yX5_firstAt cX5_firstAt 5 (some .int), Cond.methodLink RX5 104 yX5_opensAt, Cond.instanceMethod yX5_opensAt, Cond.selects RX5 yX5_opensAt yX5_opensAt, Cond.code yX5_opensAt cX5_opensAt 5 (some .int), Cond.fieldLink RX5 69 "UmbrellaVoteModel" "holes" "I", Cond.fieldLink RX5 7 "UmbrellaVoteModel" "placeOf" "[I", Cond.fieldLink RX5 79 "UmbrellaVoteModel" "tables" "I", Cond.fieldLink RX5 48 "UmbrellaVoteModel" "shade" "I", Cond.fieldLink RX5 44 "UmbrellaVoteModel" "spread" "I", Cond.fieldLink RX5 13 "UmbrellaVoteModel" "slowOf" "[I", Cond.methodLink RX5 72 yX5_ones, Cond.static yX5_ones, Cond.code yX5_ones cX5_ones 3 (some .int), Cond.methodLink RX5 167 yX5_findStand, Cond.instanceMethod yX5_findStand, Cond.selects RX5 yX5_findStand yX5_findStand, Cond.code yX5_findStand cX5_findStand 5 none, Cond.fieldLink RX5 161 "UmbrellaVoteModel" "bestPlace" "I"]
def wsX5_areAtRest : List Cond := .code yX5_areAtRest cX5_areAtRest 3 (some .boolean) :: ((wsX5_areAtRest_r1 ++ wsX5_areAtRest_r2) ++ wsX50)
def wsX5_rests_r1 : List Cond := [Cond.fieldLink RX5 63 "UmbrellaVoteModel" "there" "I", Cond.methodLink RX5 72 yX5_ones, Cond.static yX5_ones, Cond.initialized RX5, Cond.code yX5_ones cX5_ones 3 (some .int), Cond.methodLink RX5 170 yX5_keepPlaces, Cond.instanceMethod yX5_keepPlaces, Cond.selects RX5 yX5_keepPlaces yX5_keepPlaces, Cond.code yX5_keepPlaces cX5_keepPlaces 2 none, Cond.fieldLink RX5 34 "UmbrellaVoteModel" "hadPlace" "[I", Cond.fieldLink RX5 7 "UmbrellaVoteModel" "placeOf" "[I", Cond.methodLink RX5 173 yX5_layPlaces, Cond.instanceMethod yX5_layPlaces, Cond.selects RX5 yX5_layPlaces yX5_layPlaces, Cond.code yX5_layPlaces cX5_layPlaces 4 none, Cond.methodLink RX5 76 yX5_isThere, Cond.instanceMethod yX5_isThere, Cond.selects RX5 yX5_isThere yX5_isThere, Cond.code yX5_isThere cX5_isThere 2 (some .boolean), Cond.methodLink RX5 59 yX5_isPerson, Cond.static yX5_isPerson, Cond.code yX5_isPerson cX5_isPerson 1 (some .boolean), Cond.constantLong RX5 51 (5), Cond.methodLink RX5 53 yX5_in]
def wsX5_rests_r2 : List Cond := [Cond.static yX5_in, Cond.code yX5_in cX5_in 6 (some .boolean), Cond.methodLink RX5 176 yX5_areAtRest, Cond.instanceMethod yX5_areAtRest, Cond.selects RX5 yX5_areAtRest yX5_areAtRest, Cond.code yX5_areAtRest cX5_areAtRest 3 (some .boolean), Cond.fieldLink RX5 164 "UmbrellaVoteModel" "bestIs" "I", Cond.methodLink RX5 152 yX5_sixtieths, Cond.instanceMethod yX5_sixtieths, Cond.selects RX5 yX5_sixtieths yX5_sixtieths, Cond.code yX5_sixtieths cX5_sixtieths 8 (some .int), Cond.fieldLink RX5 16 "UmbrellaVoteModel" "partyOf" "[I", Cond.fieldLink RX5 19 "UmbrellaVoteModel" "weight" "[I", Cond.methodLink RX5 111 yX5_rulersBy, Cond.instanceMethod yX5_rulersBy, Cond.selects RX5 yX5_rulersBy yX5_rulersBy, Cond.code yX5_rulersBy cX5_rulersBy 5 (some .int), Cond.methodLink RX5 108 yX5_firstAt, Cond.instanceMethod yX5_firstAt, Cond.selects RX5 yX5_firstAt yX5_firstAt, Cond.code yX5_firstAt cX5_firstAt 5 (some .int), Cond.methodLink RX5 104 yX5_opensAt, Cond.instanceMethod yX5_opensAt, Cond.selects RX5 yX5_opensAt yX5_opensAt]
def wsX5_rests_r3 : List Cond := [Cond.code yX5_opensAt cX5_opensAt 5 (some .int), Cond.fieldLink RX5 69 "UmbrellaVoteModel" "holes" "I", Cond.fieldLink RX5 79 "UmbrellaVoteModel" "tables" "I", Cond.fieldLink RX5 48 "UmbrellaVoteModel" "shade" "I", Cond.fieldLink RX5 44 "UmbrellaVoteModel" "spread" "I", Cond.fieldLink RX5 13 "UmbrellaVoteModel" "slowOf" "[I", Cond.methodLink RX5 167 yX5_findStand, Cond.instanceMethod yX5_findStand, Cond.selects RX5 yX5_findStand yX5_findStand, Cond.code yX5_findStand cX5_findStand 5 none, Cond.fieldLink RX5 161 "UmbrellaVoteModel" "bestPlace" "I", Cond.methodLink RX5 180 yX5_putPlaces, Cond.instanceMethod yX5_putPlaces, Cond.selects RX5 yX5_putPlaces yX5_putPlaces, Cond.code yX5_putPlaces cX5_putPlaces 2 none]
def wsX5_rests : List Cond := .code yX5_rests cX5_rests 7 (some .int) :: ((wsX5_rests_r1 ++ (wsX5_rests_r2 ++ wsX5_rests_r3)) ++ wsX50)
def wsX5_coup_r1 : List Cond := [Cond.methodLink RX5 76 yX5_isThere, Cond.instanceMethod yX5_isThere, Cond.selects RX5 yX5_isThere yX5_isThere, Cond.initialized RX5, Cond.code yX5_isThere cX5_isThere 2 (some .boolean), Cond.fieldLink RX5 63 "UmbrellaVoteModel" "there" "I", Cond.methodLink RX5 59 yX5_isPerson, Cond.static yX5_isPerson, Cond.code yX5_isPerson cX5_isPerson 1 (some .boolean), Cond.constantLong RX5 51 (5), Cond.methodLink RX5 53 yX5_in, Cond.static yX5_in, Cond.code yX5_in cX5_in 6 (some .boolean), Cond.methodLink RX5 127 yX5_sprinkledBy, Cond.instanceMethod yX5_sprinkledBy, Cond.selects RX5 yX5_sprinkledBy yX5_sprinkledBy, Cond.code yX5_sprinkledBy cX5_sprinkledBy 5 (some .int), Cond.fieldLink RX5 7 "UmbrellaVoteModel" "placeOf" "[I", Cond.methodLink RX5 104 yX5_opensAt, Cond.instanceMethod yX5_opensAt, Cond.selects RX5 yX5_opensAt yX5_opensAt, Cond.code yX5_opensAt cX5_opensAt 5 (some .int), Cond.fieldLink RX5 69 "UmbrellaVoteModel" "holes" "I", Cond.fieldLink RX5 79 "UmbrellaVoteModel" "tables" "I"]
def wsX5_coup_r2 : List Cond := [Cond.fieldLink RX5 48 "UmbrellaVoteModel" "shade" "I", Cond.fieldLink RX5 44 "UmbrellaVoteModel" "spread" "I", Cond.fieldLink RX5 13 "UmbrellaVoteModel" "slowOf" "[I"]
def wsX5_coup : List Cond := .code yX5_coup cX5_coup 3 (some .int) :: ((wsX5_coup_r1 ++ wsX5_coup_r2) ++ wsX50)
def wsX5_quick_r1 : List Cond := [Cond.constantLong RX5 183 (100), Cond.fieldLink RX5 13 "UmbrellaVoteModel" "slowOf" "[I", Cond.methodLink RX5 76 yX5_isThere, Cond.instanceMethod yX5_isThere, Cond.selects RX5 yX5_isThere yX5_isThere, Cond.initialized RX5, Cond.code yX5_isThere cX5_isThere 2 (some .boolean), Cond.fieldLink RX5 63 "UmbrellaVoteModel" "there" "I", Cond.methodLink RX5 59 yX5_isPerson, Cond.static yX5_isPerson, Cond.code yX5_isPerson cX5_isPerson 1 (some .boolean), Cond.constantLong RX5 51 (5), Cond.methodLink RX5 53 yX5_in, Cond.static yX5_in, Cond.code yX5_in cX5_in 6 (some .boolean), Cond.methodLink RX5 152 yX5_sixtieths, Cond.instanceMethod yX5_sixtieths, Cond.selects RX5 yX5_sixtieths yX5_sixtieths, Cond.code yX5_sixtieths cX5_sixtieths 8 (some .int), Cond.fieldLink RX5 16 "UmbrellaVoteModel" "partyOf" "[I", Cond.fieldLink RX5 19 "UmbrellaVoteModel" "weight" "[I", Cond.methodLink RX5 111 yX5_rulersBy, Cond.instanceMethod yX5_rulersBy, Cond.selects RX5 yX5_rulersBy yX5_rulersBy]
def wsX5_quick_r2 : List Cond := [Cond.code yX5_rulersBy cX5_rulersBy 5 (some .int), Cond.methodLink RX5 108 yX5_firstAt, Cond.instanceMethod yX5_firstAt, Cond.selects RX5 yX5_firstAt yX5_firstAt, Cond.code yX5_firstAt cX5_firstAt 5 (some .int), Cond.methodLink RX5 104 yX5_opensAt, Cond.instanceMethod yX5_opensAt, Cond.selects RX5 yX5_opensAt yX5_opensAt, Cond.code yX5_opensAt cX5_opensAt 5 (some .int), Cond.fieldLink RX5 69 "UmbrellaVoteModel" "holes" "I", Cond.fieldLink RX5 7 "UmbrellaVoteModel" "placeOf" "[I", Cond.fieldLink RX5 79 "UmbrellaVoteModel" "tables" "I", Cond.fieldLink RX5 48 "UmbrellaVoteModel" "shade" "I", Cond.fieldLink RX5 44 "UmbrellaVoteModel" "spread" "I", Cond.methodLink RX5 72 yX5_ones, Cond.static yX5_ones, Cond.code yX5_ones cX5_ones 3 (some .int), Cond.methodLink RX5 143 yX5_weights, Cond.instanceMethod yX5_weights, Cond.selects RX5 yX5_weights yX5_weights, Cond.code yX5_weights cX5_weights 3 (some .int)]
def wsX5_quick : List Cond := .code yX5_quick cX5_quick 7 (some .int) :: ((wsX5_quick_r1 ++ wsX5_quick_r2) ++ wsX50)
def wsX5_seen : List Cond := .code yX5_seen cX5_seen 3 (some .int) :: ([.constantLong RX5 185 (2), .constantLong RX5 187 (63), .fieldLink RX5 189 "UmbrellaVoteModel" "sights" "I", .fieldLink RX5 22 "UmbrellaVoteModel" "sightHow" "[I", .fieldLink RX5 25 "UmbrellaVoteModel" "sightOf" "[I", .methodLink RX5 53 yX5_in, .static yX5_in, .initialized RX5, .code yX5_in cX5_in 6 (some .boolean), .methodLink RX5 59 yX5_isPerson, .static yX5_isPerson, .code yX5_isPerson cX5_isPerson 1 (some .boolean), .constantLong RX5 51 (5)] ++ wsX50)
def wsX5_forget : List Cond := .code yX5_forget cX5_forget 2 (some .int) :: ([.fieldLink RX5 189 "UmbrellaVoteModel" "sights" "I"] ++ wsX50)
def wsX5_holds : List Cond := .code yX5_holds cX5_holds 3 (some .boolean) :: ([.fieldLink RX5 22 "UmbrellaVoteModel" "sightHow" "[I", .fieldLink RX5 25 "UmbrellaVoteModel" "sightOf" "[I"] ++ wsX50)
def wsX5_fits_r1 : List Cond := [Cond.fieldLink RX5 189 "UmbrellaVoteModel" "sights" "I", Cond.methodLink RX5 111 yX5_rulersBy, Cond.instanceMethod yX5_rulersBy, Cond.selects RX5 yX5_rulersBy yX5_rulersBy, Cond.initialized RX5, Cond.code yX5_rulersBy cX5_rulersBy 5 (some .int), Cond.methodLink RX5 108 yX5_firstAt, Cond.instanceMethod yX5_firstAt, Cond.selects RX5 yX5_firstAt yX5_firstAt, Cond.code yX5_firstAt cX5_firstAt 5 (some .int), Cond.methodLink RX5 104 yX5_opensAt, Cond.instanceMethod yX5_opensAt, Cond.selects RX5 yX5_opensAt yX5_opensAt, Cond.code yX5_opensAt cX5_opensAt 5 (some .int), Cond.fieldLink RX5 69 "UmbrellaVoteModel" "holes" "I", Cond.fieldLink RX5 7 "UmbrellaVoteModel" "placeOf" "[I", Cond.fieldLink RX5 79 "UmbrellaVoteModel" "tables" "I", Cond.fieldLink RX5 48 "UmbrellaVoteModel" "shade" "I", Cond.fieldLink RX5 44 "UmbrellaVoteModel" "spread" "I", Cond.fieldLink RX5 13 "UmbrellaVoteModel" "slowOf" "[I", Cond.methodLink RX5 76 yX5_isThere, Cond.instanceMethod yX5_isThere, Cond.selects RX5 yX5_isThere yX5_isThere, Cond.code yX5_isThere cX5_isThere 2 (some .boolean)]
def wsX5_fits_r2 : List Cond := [Cond.fieldLink RX5 63 "UmbrellaVoteModel" "there" "I", Cond.methodLink RX5 59 yX5_isPerson, Cond.static yX5_isPerson, Cond.code yX5_isPerson cX5_isPerson 1 (some .boolean), Cond.constantLong RX5 51 (5), Cond.methodLink RX5 53 yX5_in, Cond.static yX5_in, Cond.code yX5_in cX5_in 6 (some .boolean), Cond.methodLink RX5 192 yX5_holds, Cond.instanceMethod yX5_holds, Cond.selects RX5 yX5_holds yX5_holds, Cond.code yX5_holds cX5_holds 3 (some .boolean), Cond.fieldLink RX5 22 "UmbrellaVoteModel" "sightHow" "[I", Cond.fieldLink RX5 25 "UmbrellaVoteModel" "sightOf" "[I"]
def wsX5_fits : List Cond := .code yX5_fits cX5_fits 6 (some .int) :: ((wsX5_fits_r1 ++ wsX5_fits_r2) ++ wsX50)
def wsX5_year_r1 : List Cond := [Cond.constantLong RX5 195 (9999), Cond.constantLong RX5 197 (99), Cond.constantLong RX5 148 (7), Cond.fieldLink RX5 114 "UmbrellaVoteModel" "reigns" "I", Cond.fieldLink RX5 117 "UmbrellaVoteModel" "ruling" "I", Cond.constantLong RX5 199 (75), Cond.constantLong RX5 201 (74), Cond.constantLong RX5 203 (65537), Cond.methodLink RX5 53 yX5_in, Cond.static yX5_in, Cond.initialized RX5, Cond.code yX5_in cX5_in 6 (some .boolean), Cond.methodLink RX5 111 yX5_rulersBy, Cond.instanceMethod yX5_rulersBy, Cond.selects RX5 yX5_rulersBy yX5_rulersBy, Cond.code yX5_rulersBy cX5_rulersBy 5 (some .int), Cond.methodLink RX5 108 yX5_firstAt, Cond.instanceMethod yX5_firstAt, Cond.selects RX5 yX5_firstAt yX5_firstAt, Cond.code yX5_firstAt cX5_firstAt 5 (some .int), Cond.methodLink RX5 104 yX5_opensAt, Cond.instanceMethod yX5_opensAt, Cond.selects RX5 yX5_opensAt yX5_opensAt, Cond.code yX5_opensAt cX5_opensAt 5 (some .int)]
def wsX5_year_r2 : List Cond := [Cond.fieldLink RX5 69 "UmbrellaVoteModel" "holes" "I", Cond.fieldLink RX5 7 "UmbrellaVoteModel" "placeOf" "[I", Cond.fieldLink RX5 79 "UmbrellaVoteModel" "tables" "I", Cond.fieldLink RX5 48 "UmbrellaVoteModel" "shade" "I", Cond.fieldLink RX5 44 "UmbrellaVoteModel" "spread" "I", Cond.fieldLink RX5 13 "UmbrellaVoteModel" "slowOf" "[I", Cond.methodLink RX5 76 yX5_isThere, Cond.instanceMethod yX5_isThere, Cond.selects RX5 yX5_isThere yX5_isThere, Cond.code yX5_isThere cX5_isThere 2 (some .boolean), Cond.fieldLink RX5 63 "UmbrellaVoteModel" "there" "I", Cond.methodLink RX5 59 yX5_isPerson, Cond.static yX5_isPerson, Cond.code yX5_isPerson cX5_isPerson 1 (some .boolean), Cond.constantLong RX5 51 (5), Cond.methodLink RX5 124 yX5_rule, Cond.instanceMethod yX5_rule, Cond.selects RX5 yX5_rule yX5_rule, Cond.code yX5_rule cX5_rule 2 none]
def wsX5_year : List Cond := .code yX5_year cX5_year 8 (some .int) :: ((wsX5_year_r1 ++ wsX5_year_r2) ++ wsX50)
def wsX5_carry : List Cond := .code yX5_carry cX5_carry 3 (some .int) :: ([.fieldLink RX5 205 "UmbrellaVoteModel" "isWriting" "Z", .fieldLink RX5 37 "UmbrellaVoteModel" "kept" "[I", .fieldLink RX5 209 "UmbrellaVoteModel" "keptAt" "I"] ++ wsX50)
def wsX5_passAll : List Cond := .code yX5_passAll cX5_passAll 2 none :: ([.fieldLink RX5 63 "UmbrellaVoteModel" "there" "I", .fieldLink RX5 69 "UmbrellaVoteModel" "holes" "I", .fieldLink RX5 79 "UmbrellaVoteModel" "tables" "I", .fieldLink RX5 44 "UmbrellaVoteModel" "spread" "I", .fieldLink RX5 48 "UmbrellaVoteModel" "shade" "I", .fieldLink RX5 189 "UmbrellaVoteModel" "sights" "I", .fieldLink RX5 7 "UmbrellaVoteModel" "placeOf" "[I", .fieldLink RX5 13 "UmbrellaVoteModel" "slowOf" "[I", .fieldLink RX5 16 "UmbrellaVoteModel" "partyOf" "[I", .fieldLink RX5 22 "UmbrellaVoteModel" "sightHow" "[I", .fieldLink RX5 25 "UmbrellaVoteModel" "sightOf" "[I", .fieldLink RX5 19 "UmbrellaVoteModel" "weight" "[I", .methodLink RX5 212 yX5_carry, .instanceMethod yX5_carry, .selects RX5 yX5_carry yX5_carry, .initialized RX5, .code yX5_carry cX5_carry 3 (some .int), .fieldLink RX5 205 "UmbrellaVoteModel" "isWriting" "Z", .fieldLink RX5 37 "UmbrellaVoteModel" "kept" "[I", .fieldLink RX5 209 "UmbrellaVoteModel" "keptAt" "I"] ++ wsX50)
def wsX5_image_r1 : List Cond := [Cond.fieldLink RX5 209 "UmbrellaVoteModel" "keptAt" "I", Cond.fieldLink RX5 205 "UmbrellaVoteModel" "isWriting" "Z", Cond.fieldLink RX5 40 "UmbrellaVoteModel" "isKept" "[Z", Cond.methodLink RX5 53 yX5_in, Cond.static yX5_in, Cond.initialized RX5, Cond.code yX5_in cX5_in 6 (some .boolean), Cond.methodLink RX5 215 yX5_passAll, Cond.instanceMethod yX5_passAll, Cond.selects RX5 yX5_passAll yX5_passAll, Cond.code yX5_passAll cX5_passAll 2 none, Cond.fieldLink RX5 63 "UmbrellaVoteModel" "there" "I", Cond.fieldLink RX5 69 "UmbrellaVoteModel" "holes" "I", Cond.fieldLink RX5 79 "UmbrellaVoteModel" "tables" "I", Cond.fieldLink RX5 44 "UmbrellaVoteModel" "spread" "I", Cond.fieldLink RX5 48 "UmbrellaVoteModel" "shade" "I", Cond.fieldLink RX5 189 "UmbrellaVoteModel" "sights" "I", Cond.fieldLink RX5 7 "UmbrellaVoteModel" "placeOf" "[I", Cond.fieldLink RX5 13 "UmbrellaVoteModel" "slowOf" "[I", Cond.fieldLink RX5 16 "UmbrellaVoteModel" "partyOf" "[I", Cond.fieldLink RX5 22 "UmbrellaVoteModel" "sightHow" "[I", Cond.fieldLink RX5 25 "UmbrellaVoteModel" "sightOf" "[I", Cond.fieldLink RX5 19 "UmbrellaVoteModel" "weight" "[I", Cond.methodLink RX5 212 yX5_carry]
def wsX5_image_r2 : List Cond := [Cond.instanceMethod yX5_carry, Cond.selects RX5 yX5_carry yX5_carry, Cond.code yX5_carry cX5_carry 3 (some .int), Cond.fieldLink RX5 37 "UmbrellaVoteModel" "kept" "[I"]
def wsX5_image : List Cond := .code yX5_image cX5_image 2 (some .int) :: ((wsX5_image_r1 ++ wsX5_image_r2) ++ wsX50)
def wsX5_restore_r1 : List Cond := [Cond.fieldLink RX5 40 "UmbrellaVoteModel" "isKept" "[Z", Cond.fieldLink RX5 209 "UmbrellaVoteModel" "keptAt" "I", Cond.fieldLink RX5 205 "UmbrellaVoteModel" "isWriting" "Z", Cond.methodLink RX5 53 yX5_in, Cond.static yX5_in, Cond.initialized RX5, Cond.code yX5_in cX5_in 6 (some .boolean), Cond.methodLink RX5 215 yX5_passAll, Cond.instanceMethod yX5_passAll, Cond.selects RX5 yX5_passAll yX5_passAll, Cond.code yX5_passAll cX5_passAll 2 none, Cond.fieldLink RX5 63 "UmbrellaVoteModel" "there" "I", Cond.fieldLink RX5 69 "UmbrellaVoteModel" "holes" "I", Cond.fieldLink RX5 79 "UmbrellaVoteModel" "tables" "I", Cond.fieldLink RX5 44 "UmbrellaVoteModel" "spread" "I", Cond.fieldLink RX5 48 "UmbrellaVoteModel" "shade" "I", Cond.fieldLink RX5 189 "UmbrellaVoteModel" "sights" "I", Cond.fieldLink RX5 7 "UmbrellaVoteModel" "placeOf" "[I", Cond.fieldLink RX5 13 "UmbrellaVoteModel" "slowOf" "[I", Cond.fieldLink RX5 16 "UmbrellaVoteModel" "partyOf" "[I", Cond.fieldLink RX5 22 "UmbrellaVoteModel" "sightHow" "[I", Cond.fieldLink RX5 25 "UmbrellaVoteModel" "sightOf" "[I", Cond.fieldLink RX5 19 "UmbrellaVoteModel" "weight" "[I", Cond.methodLink RX5 212 yX5_carry]
def wsX5_restore_r2 : List Cond := [Cond.instanceMethod yX5_carry, Cond.selects RX5 yX5_carry yX5_carry, Cond.code yX5_carry cX5_carry 3 (some .int), Cond.fieldLink RX5 37 "UmbrellaVoteModel" "kept" "[I"]
def wsX5_restore : List Cond := .code yX5_restore cX5_restore 2 (some .int) :: ((wsX5_restore_r1 ++ wsX5_restore_r2) ++ wsX50)
def wsX5_told_r1 : List Cond := [Cond.constantLong RX5 218 (10), Cond.constantLong RX5 220 (19), Cond.fieldLink RX5 19 "UmbrellaVoteModel" "weight" "[I", Cond.constantLong RX5 222 (20), Cond.constantLong RX5 224 (79), Cond.fieldLink RX5 7 "UmbrellaVoteModel" "placeOf" "[I", Cond.fieldLink RX5 13 "UmbrellaVoteModel" "slowOf" "[I", Cond.fieldLink RX5 16 "UmbrellaVoteModel" "partyOf" "[I", Cond.fieldLink RX5 69 "UmbrellaVoteModel" "holes" "I", Cond.fieldLink RX5 86 "UmbrellaVoteModel" "padMany" "I", Cond.fieldLink RX5 63 "UmbrellaVoteModel" "there" "I", Cond.fieldLink RX5 44 "UmbrellaVoteModel" "spread" "I", Cond.fieldLink RX5 48 "UmbrellaVoteModel" "shade" "I", Cond.fieldLink RX5 79 "UmbrellaVoteModel" "tables" "I", Cond.fieldLink RX5 189 "UmbrellaVoteModel" "sights" "I", Cond.methodLink RX5 53 yX5_in, Cond.static yX5_in, Cond.initialized RX5, Cond.code yX5_in cX5_in 6 (some .boolean), Cond.methodLink RX5 76 yX5_isThere, Cond.instanceMethod yX5_isThere, Cond.selects RX5 yX5_isThere yX5_isThere, Cond.code yX5_isThere cX5_isThere 2 (some .boolean), Cond.methodLink RX5 59 yX5_isPerson]
def wsX5_told_r2 : List Cond := [Cond.static yX5_isPerson, Cond.code yX5_isPerson cX5_isPerson 1 (some .boolean), Cond.constantLong RX5 51 (5)]
def wsX5_told : List Cond := .code yX5_told cX5_told 5 (some .int) :: ((wsX5_told_r1 ++ wsX5_told_r2) ++ wsX50)
def wsJ9_abs_0f7a4 : List Cond := .code yJ9_abs_0f7a4 cJ9_abs_0f7a4 1 (some .int) :: ([])
def wsJ9_max_7cf53 : List Cond := .code yJ9_max_7cf53 cJ9_max_7cf53 2 (some .int) :: ([])
def wsJ9_min_7cf53 : List Cond := .code yJ9_min_7cf53 cJ9_min_7cf53 2 (some .int) :: ([])
def wsL_law_r1 : List Cond := [Cond.classLink RL 7 RX4, Cond.instantiable RX4 6, Cond.initialized RX4, Cond.classLink RL 10 RX5, Cond.instantiable RX5 24, Cond.initialized RX5, Cond.methodLink RL 9 yX4_init, Cond.instanceMethod yX4_init, Cond.code yX4_init cX4_init 1 none, Cond.methodLink RX4 1 objectInit, Cond.instanceMethod objectInit, Cond.code objectInit ⟨#[0xb1]⟩ 1 none, Cond.classLink RX4 7 RX0, Cond.instantiable RX0 12, Cond.initialized RX0, Cond.fieldLink RX4 10 "UmbrellaVote" "city" "LUmbrellaVote$City;", Cond.fieldLink RX4 16 "UmbrellaVote" "trial" "LUmbrellaVote$City;", Cond.fieldLink RX4 19 "UmbrellaVote" "images" "[LUmbrellaVote$City;", Cond.classLink RX4 23 RX2, Cond.instantiable RX2 2, Cond.initialized RX2, Cond.fieldLink RX4 26 "UmbrellaVote" "pad" "LUmbrellaVote$Pad;", Cond.classLink RX4 30 RX1, Cond.instantiable RX1 5]
def wsL_law_r2 : List Cond := [Cond.initialized RX1, Cond.fieldLink RX4 35 "UmbrellaVote" "history" "LUmbrellaVote$History;", Cond.classLink RX4 39 RX3, Cond.instantiable RX3 5, Cond.initialized RX3, Cond.fieldLink RX4 42 "UmbrellaVote" "resting" "LUmbrellaVote$Resting;", Cond.methodLink RX4 9 yX0_init, Cond.instanceMethod yX0_init, Cond.code yX0_init cX0_init 1 none, Cond.methodLink RX0 3 objectInit, Cond.fieldLink RX0 9 "UmbrellaVote$City" "spread" "I", Cond.fieldLink RX0 15 "UmbrellaVote$City" "shade" "I", Cond.arrayClass .int, Cond.fieldLink RX0 18 "UmbrellaVote$City" "places" "[I", Cond.fieldLink RX0 22 "UmbrellaVote$City" "slows" "[I", Cond.fieldLink RX0 25 "UmbrellaVote$City" "weights" "[I", Cond.fieldLink RX0 28 "UmbrellaVote$City" "sightHows" "[I", Cond.fieldLink RX0 31 "UmbrellaVote$City" "sightOfs" "[I", Cond.methodLink RX0 34 yJ7_fill_53178, Cond.static yJ7_fill_53178, Cond.initialized RJ7, Cond.code yJ7_fill_53178 cJ7_fill_53178 4 none, Cond.instanceMethod yX2_init, Cond.code yX2_init cX2_init 1 none]
def wsL_law_r3 : List Cond := [Cond.methodLink RX2 3 objectInit, Cond.fieldLink RX2 9 "UmbrellaVote$Pad" "signs" "[I", Cond.methodLink RX4 32 yX1_init, Cond.instanceMethod yX1_init, Cond.code yX1_init cX1_init 2 none, Cond.methodLink RX1 3 objectInit, Cond.fieldLink RX1 9 "UmbrellaVote$History" "years" "[I", Cond.fieldLink RX1 15 "UmbrellaVote$History" "city" "LUmbrellaVote$City;", Cond.instanceMethod yX3_init, Cond.code yX3_init cX3_init 1 none, Cond.methodLink RX3 5 objectInit, Cond.fieldLink RX3 11 "UmbrellaVote$Resting" "weights" "[I", Cond.fieldLink RX3 17 "UmbrellaVote$Resting" "times" "[I", Cond.fieldLink RX3 20 "UmbrellaVote$Resting" "shares" "[I", Cond.fieldLink RX3 23 "UmbrellaVote$Resting" "greatest" "[I", Cond.methodLink RL 12 yX5_init, Cond.instanceMethod yX5_init, Cond.code yX5_init cX5_init 2 none, Cond.methodLink RX5 1 objectInit, Cond.fieldLink RX5 7 "UmbrellaVoteModel" "placeOf" "[I", Cond.fieldLink RX5 13 "UmbrellaVoteModel" "slowOf" "[I", Cond.fieldLink RX5 16 "UmbrellaVoteModel" "partyOf" "[I", Cond.fieldLink RX5 19 "UmbrellaVoteModel" "weight" "[I", Cond.fieldLink RX5 22 "UmbrellaVoteModel" "sightHow" "[I"]
def wsL_law_r4 : List Cond := [Cond.fieldLink RX5 25 "UmbrellaVoteModel" "sightOf" "[I", Cond.fieldLink RX5 28 "UmbrellaVoteModel" "pad" "[I", Cond.fieldLink RX5 31 "UmbrellaVoteModel" "years" "[I", Cond.fieldLink RX5 34 "UmbrellaVoteModel" "hadPlace" "[I", Cond.fieldLink RX5 37 "UmbrellaVoteModel" "kept" "[I", Cond.arrayClass .boolean, Cond.fieldLink RX5 40 "UmbrellaVoteModel" "isKept" "[Z", Cond.fieldLink RX5 44 "UmbrellaVoteModel" "spread" "I", Cond.fieldLink RX5 48 "UmbrellaVoteModel" "shade" "I", Cond.methodLink RL 13 yX4_stand, Cond.instanceMethod yX4_stand, Cond.selects RX4 yX4_stand yX4_stand, Cond.code yX4_stand cX4_stand 6 (some .int), Cond.fieldLink RX4 58 "UmbrellaVote$City" "there" "I", Cond.fieldLink RX4 66 "UmbrellaVote$City" "cotton" "I", Cond.fieldLink RX4 69 "UmbrellaVote$City" "holes" "I", Cond.methodLink RX4 46 yX4_within, Cond.static yX4_within, Cond.code yX4_within cX4_within 3 (some .boolean), Cond.methodLink RX4 50 yX4_isPlace, Cond.static yX4_isPlace, Cond.code yX4_isPlace cX4_isPlace 1 (some .boolean), Cond.methodLink RX4 54 yX0_put, Cond.instanceMethod yX0_put]
def wsL_law_r5 : List Cond := [Cond.selects RX0 yX0_put yX0_put, Cond.code yX0_put cX0_put 4 none, Cond.methodLink RX4 62 yX4_withBit, Cond.static yX4_withBit, Cond.code yX4_withBit cX4_withBit 3 (some .int), Cond.methodLink RX4 72 yJ6_bitCount_0f7a4, Cond.static yJ6_bitCount_0f7a4, Cond.initialized RJ6, Cond.code yJ6_bitCount_0f7a4 cJ6_bitCount_0f7a4 1 (some .int), Cond.constant RJ6 265 (1431655765), Cond.constant RJ6 266 (858993459), Cond.constant RJ6 267 (252645135), Cond.methodLink RL 17 yX5_stand, Cond.instanceMethod yX5_stand, Cond.selects RX5 yX5_stand yX5_stand, Cond.code yX5_stand cX5_stand 6 (some .int), Cond.constantLong RX5 57 (9), Cond.fieldLink RX5 69 "UmbrellaVoteModel" "holes" "I", Cond.fieldLink RX5 63 "UmbrellaVoteModel" "there" "I", Cond.methodLink RX5 59 yX5_isPerson, Cond.static yX5_isPerson, Cond.code yX5_isPerson cX5_isPerson 1 (some .boolean), Cond.constantLong RX5 51 (5), Cond.methodLink RX5 53 yX5_in]
def wsL_law_r6 : List Cond := [Cond.static yX5_in, Cond.code yX5_in cX5_in 6 (some .boolean), Cond.methodLink RX5 66 yX5_isPlace, Cond.static yX5_isPlace, Cond.code yX5_isPlace cX5_isPlace 1 (some .boolean), Cond.methodLink RX5 72 yX5_ones, Cond.static yX5_ones, Cond.code yX5_ones cX5_ones 3 (some .int), Cond.methodLink RL 18 yX4_leave, Cond.instanceMethod yX4_leave, Cond.selects RX4 yX4_leave yX4_leave, Cond.code yX4_leave cX4_leave 2 (some .int), Cond.methodLink RX4 78 yX0_isThere, Cond.instanceMethod yX0_isThere, Cond.selects RX0 yX0_isThere yX0_isThere, Cond.code yX0_isThere cX0_isThere 2 (some .boolean), Cond.fieldLink RX0 40 "UmbrellaVote$City" "there" "I", Cond.static yX4_hasBit, Cond.code yX4_hasBit cX4_hasBit 2 (some .boolean), Cond.methodLink RL 22 yX5_leave, Cond.instanceMethod yX5_leave, Cond.selects RX5 yX5_leave yX5_leave, Cond.code yX5_leave cX5_leave 2 (some .int), Cond.methodLink RX5 76 yX5_isThere]
def wsL_law_r7 : List Cond := [Cond.instanceMethod yX5_isThere, Cond.selects RX5 yX5_isThere yX5_isThere, Cond.code yX5_isThere cX5_isThere 2 (some .boolean), Cond.methodLink RL 23 yX4_table, Cond.instanceMethod yX4_table, Cond.selects RX4 yX4_table yX4_table, Cond.code yX4_table cX4_table 3 (some .int), Cond.fieldLink RX4 81 "UmbrellaVote$City" "tables" "I", Cond.methodLink RL 27 yX5_table, Cond.instanceMethod yX5_table, Cond.selects RX5 yX5_table yX5_table, Cond.code yX5_table cX5_table 3 (some .int), Cond.fieldLink RX5 79 "UmbrellaVoteModel" "tables" "I", Cond.methodLink RL 28 yX4_set, Cond.instanceMethod yX4_set, Cond.selects RX4 yX4_set yX4_set, Cond.code yX4_set cX4_set 4 (some .int), Cond.fieldLink RX4 84 "UmbrellaVote$City" "spread" "I", Cond.fieldLink RX4 87 "UmbrellaVote$City" "shade" "I", Cond.methodLink RL 32 yX5_set, Cond.instanceMethod yX5_set, Cond.selects RX5 yX5_set yX5_set, Cond.code yX5_set cX5_set 4 (some .int), Cond.methodLink RL 33 yX4_say]
def wsL_law_r8 : List Cond := [Cond.instanceMethod yX4_say, Cond.selects RX4 yX4_say yX4_say, Cond.code yX4_say cX4_say 2 (some .int), Cond.fieldLink RX4 93 "UmbrellaVote$Pad" "count" "I", Cond.methodLink RX4 90 yX2_write, Cond.instanceMethod yX2_write, Cond.selects RX2 yX2_write yX2_write, Cond.code yX2_write cX2_write 2 (some .boolean), Cond.fieldLink RX2 15 "UmbrellaVote$Pad" "count" "I", Cond.methodLink RL 36 yX5_say, Cond.instanceMethod yX5_say, Cond.selects RX5 yX5_say yX5_say, Cond.code yX5_say cX5_say 2 (some .int), Cond.constantLong RX5 82 (33), Cond.constantLong RX5 84 (126), Cond.fieldLink RX5 86 "UmbrellaVoteModel" "padMany" "I", Cond.methodLink RL 37 yX4_wipe, Cond.instanceMethod yX4_wipe, Cond.selects RX4 yX4_wipe yX4_wipe, Cond.code yX4_wipe cX4_wipe 2 (some .int), Cond.methodLink RL 41 yX5_wipe, Cond.instanceMethod yX5_wipe, Cond.selects RX5 yX5_wipe yX5_wipe, Cond.code yX5_wipe cX5_wipe 2 (some .int)]
def wsL_law_r9 : List Cond := [Cond.methodLink RL 42 yX4_fault, Cond.instanceMethod yX4_fault, Cond.selects RX4 yX4_fault yX4_fault, Cond.code yX4_fault cX4_fault 1 (some .int), Cond.methodLink RX4 96 yX2_firstFault, Cond.instanceMethod yX2_firstFault, Cond.selects RX2 yX2_firstFault yX2_firstFault, Cond.code yX2_firstFault cX2_firstFault 5 (some .int), Cond.methodLink RX2 27 yX2_sign, Cond.instanceMethod yX2_sign, Cond.selects RX2 yX2_sign yX2_sign, Cond.code yX2_sign cX2_sign 2 (some .int), Cond.methodLink RX2 31 yX2_canBegin, Cond.static yX2_canBegin, Cond.code yX2_canBegin cX2_canBegin 1 (some .boolean), Cond.methodLink RX2 23 yX2_takesAnother, Cond.static yX2_takesAnother, Cond.code yX2_takesAnother cX2_takesAnother 1 (some .boolean), Cond.methodLink RX2 34 yX2_canFollow, Cond.static yX2_canFollow, Cond.code yX2_canFollow cX2_canFollow 2 (some .boolean), Cond.methodLink RL 45 yX5_fault, Cond.instanceMethod yX5_fault, Cond.selects RX5 yX5_fault yX5_fault]
def wsL_law_r10 : List Cond := [Cond.code yX5_fault cX5_fault 3 (some .int), Cond.methodLink RX5 97 yX5_canStand, Cond.static yX5_canStand, Cond.code yX5_canStand cX5_canStand 3 (some .boolean), Cond.constantLong RX5 89 (48), Cond.constantLong RX5 91 (57), Cond.constantLong RX5 93 (65), Cond.constantLong RX5 95 (70), Cond.methodLink RX5 101 yX5_isOpening, Cond.static yX5_isOpening, Cond.code yX5_isOpening cX5_isOpening 2 (some .boolean), Cond.methodLink RL 46 yX4_rules, Cond.instanceMethod yX4_rules, Cond.selects RX4 yX4_rules yX4_rules, Cond.code yX4_rules cX4_rules 4 (some .int), Cond.methodLink RX4 100 yX0_rulers, Cond.instanceMethod yX0_rulers, Cond.selects RX0 yX0_rulers yX0_rulers, Cond.code yX0_rulers cX0_rulers 2 (some .int), Cond.methodLink RX0 86 yX0_umbrellas, Cond.instanceMethod yX0_umbrellas, Cond.selects RX0 yX0_umbrellas yX0_umbrellas, Cond.code yX0_umbrellas cX0_umbrellas 1 (some .int), Cond.fieldLink RX0 43 "UmbrellaVote$City" "holes" "I"]
def wsL_law_r11 : List Cond := [Cond.methodLink RX0 90 yX0_firstOf, Cond.instanceMethod yX0_firstOf, Cond.selects RX0 yX0_firstOf yX0_firstOf, Cond.code yX0_firstOf cX0_firstOf 7 (some .int), Cond.constant RX0 81 (2147483647), Cond.methodLink RX0 82 Lib.Math.min.name, Cond.static Lib.Math.min.name, Cond.initialized "java/lang/Math", Cond.code Lib.Math.min.name Lib.Math.min.code 2 (some .int), Cond.methodLink RX0 69 yX0_openTimeAt, Cond.instanceMethod yX0_openTimeAt, Cond.selects RX0 yX0_openTimeAt yX0_openTimeAt, Cond.code yX0_openTimeAt cX0_openTimeAt 5 (some .int), Cond.fieldLink RX0 49 "UmbrellaVote$City" "tables" "I", Cond.methodLink RX0 73 Lib.Math.abs.name, Cond.static Lib.Math.abs.name, Cond.code Lib.Math.abs.name Lib.Math.abs.code 1 (some .int), Cond.methodLink RX4 103 yX4_firstPerson, Cond.static yX4_firstPerson, Cond.code yX4_firstPerson cX4_firstPerson 2 (some .int), Cond.methodLink RX4 110 yX4_hasBit, Cond.methodLink RX4 106 yX0_openTime, Cond.instanceMethod yX0_openTime, Cond.selects RX0 yX0_openTime yX0_openTime]
def wsL_law_r12 : List Cond := [Cond.code yX0_openTime cX0_openTime 3 (some .int), Cond.methodLink RL 49 yX5_rules, Cond.instanceMethod yX5_rules, Cond.selects RX5 yX5_rules yX5_rules, Cond.code yX5_rules cX5_rules 4 (some .int), Cond.methodLink RX5 108 yX5_firstAt, Cond.instanceMethod yX5_firstAt, Cond.selects RX5 yX5_firstAt yX5_firstAt, Cond.code yX5_firstAt cX5_firstAt 5 (some .int), Cond.methodLink RX5 104 yX5_opensAt, Cond.instanceMethod yX5_opensAt, Cond.selects RX5 yX5_opensAt yX5_opensAt, Cond.code yX5_opensAt cX5_opensAt 5 (some .int), Cond.methodLink RX5 111 yX5_rulersBy, Cond.instanceMethod yX5_rulersBy, Cond.selects RX5 yX5_rulersBy yX5_rulersBy, Cond.code yX5_rulersBy cX5_rulersBy 5 (some .int), Cond.methodLink RL 50 yX4_opens, Cond.instanceMethod yX4_opens, Cond.selects RX4 yX4_opens yX4_opens, Cond.code yX4_opens cX4_opens 3 (some .int), Cond.methodLink RL 53 yX5_opens, Cond.instanceMethod yX5_opens, Cond.selects RX5 yX5_opens yX5_opens]
def wsL_law_r13 : List Cond := [Cond.code yX5_opens cX5_opens 4 (some .int), Cond.methodLink RL 54 yX4_never, Cond.instanceMethod yX4_never, Cond.selects RX4 yX4_never yX4_never, Cond.code yX4_never cX4_never 3 (some .int), Cond.methodLink RL 57 yX5_never, Cond.instanceMethod yX5_never, Cond.selects RX5 yX5_never yX5_never, Cond.code yX5_never cX5_never 3 (some .int), Cond.methodLink RL 58 yX4_reign, Cond.instanceMethod yX4_reign, Cond.selects RX4 yX4_reign yX4_reign, Cond.code yX4_reign cX4_reign 3 (some .int), Cond.fieldLink RX4 121 "UmbrellaVote$History" "ruling" "I", Cond.methodLink RX4 114 yX2_parts, Cond.instanceMethod yX2_parts, Cond.selects RX2 yX2_parts yX2_parts, Cond.code yX2_parts cX2_parts 3 (some .int), Cond.methodLink RX4 117 yX1_play, Cond.instanceMethod yX1_play, Cond.selects RX1 yX1_play yX1_play, Cond.code yX1_play cX1_play 7 none, Cond.fieldLink RX1 38 "UmbrellaVote$Pad" "count" "I", Cond.methodLink RX1 35 yX1_begin]
def wsL_law_r14 : List Cond := [Cond.instanceMethod yX1_begin, Cond.selects RX1 yX1_begin yX1_begin, Cond.code yX1_begin cX1_begin 1 none, Cond.fieldLink RX1 19 "UmbrellaVote$History" "ruling" "I", Cond.fieldLink RX1 23 "UmbrellaVote$History" "broken" "I", Cond.fieldLink RX1 26 "UmbrellaVote$History" "reigns" "I", Cond.methodLink RX1 29 yJ7_fill_53178, Cond.methodLink RX1 43 yX2_sign, Cond.methodLink RX1 47 yX2_takesAnother, Cond.methodLink RX1 51 yX1_happen, Cond.instanceMethod yX1_happen, Cond.selects RX1 yX1_happen yX1_happen, Cond.code yX1_happen cX1_happen 3 none, Cond.methodLink RX1 55 yX1_umbrellas, Cond.instanceMethod yX1_umbrellas, Cond.selects RX1 yX1_umbrellas yX1_umbrellas, Cond.code yX1_umbrellas cX1_umbrellas 1 (some .int), Cond.methodLink RX1 81 yX0_umbrellas, Cond.methodLink RX1 59 yX0_sprinkled, Cond.instanceMethod yX0_sprinkled, Cond.selects RX0 yX0_sprinkled yX0_sprinkled, Cond.code yX0_sprinkled cX0_sprinkled 5 (some .int), Cond.methodLink RX1 65 yX1_opened, Cond.instanceMethod yX1_opened]
def wsL_law_r15 : List Cond := [Cond.selects RX1 yX1_opened yX1_opened, Cond.code yX1_opened cX1_opened 2 none, Cond.methodLink RX1 69 yX1_become, Cond.instanceMethod yX1_become, Cond.selects RX1 yX1_become yX1_become, Cond.code yX1_become cX1_become 2 none, Cond.methodLink RX1 72 yX1_pass, Cond.instanceMethod yX1_pass, Cond.selects RX1 yX1_pass yX1_pass, Cond.code yX1_pass cX1_pass 3 none, Cond.fieldLink RX1 93 "UmbrellaVote$City" "cotton" "I", Cond.methodLink RX1 75 yX1_breakUmbrella, Cond.instanceMethod yX1_breakUmbrella, Cond.selects RX1 yX1_breakUmbrella yX1_breakUmbrella, Cond.code yX1_breakUmbrella cX1_breakUmbrella 2 none, Cond.methodLink RX1 78 yX1_rain, Cond.instanceMethod yX1_rain, Cond.selects RX1 yX1_rain yX1_rain, Cond.code yX1_rain cX1_rain 2 none, Cond.methodLink RX1 82 yX0_firstOf, Cond.methodLink RL 61 yX5_reign, Cond.instanceMethod yX5_reign, Cond.selects RX5 yX5_reign yX5_reign, Cond.code yX5_reign cX5_reign 3 (some .int)]
def wsL_law_r16 : List Cond := [Cond.constantLong RX5 141 (-1), Cond.fieldLink RX5 117 "UmbrellaVoteModel" "ruling" "I", Cond.methodLink RX5 134 yX5_fault, Cond.methodLink RX5 138 yX5_goParts, Cond.instanceMethod yX5_goParts, Cond.selects RX5 yX5_goParts yX5_goParts, Cond.code yX5_goParts cX5_goParts 6 (some .int), Cond.fieldLink RX5 114 "UmbrellaVoteModel" "reigns" "I", Cond.methodLink RX5 130 yX5_happen, Cond.instanceMethod yX5_happen, Cond.selects RX5 yX5_happen yX5_happen, Cond.code yX5_happen cX5_happen 4 none, Cond.methodLink RX5 120 yX5_goYears, Cond.instanceMethod yX5_goYears, Cond.selects RX5 yX5_goYears yX5_goYears, Cond.code yX5_goYears cX5_goYears 5 none, Cond.methodLink RX5 124 yX5_rule, Cond.instanceMethod yX5_rule, Cond.selects RX5 yX5_rule yX5_rule, Cond.code yX5_rule cX5_rule 2 none, Cond.methodLink RX5 127 yX5_sprinkledBy, Cond.instanceMethod yX5_sprinkledBy, Cond.selects RX5 yX5_sprinkledBy yX5_sprinkledBy, Cond.code yX5_sprinkledBy cX5_sprinkledBy 5 (some .int)]
def wsL_law_r17 : List Cond := [Cond.methodLink RL 62 yX4_years, Cond.instanceMethod yX4_years, Cond.selects RX4 yX4_years yX4_years, Cond.code yX4_years cX4_years 2 (some .int), Cond.fieldLink RX4 124 "UmbrellaVote$History" "reigns" "I", Cond.methodLink RX4 127 yX1_yearsOf, Cond.instanceMethod yX1_yearsOf, Cond.selects RX1 yX1_yearsOf yX1_yearsOf, Cond.code yX1_yearsOf cX1_yearsOf 2 (some .int), Cond.methodLink RL 65 yX5_years, Cond.instanceMethod yX5_years, Cond.selects RX5 yX5_years yX5_years, Cond.code yX5_years cX5_years 2 (some .int), Cond.methodLink RL 66 yX4_weight, Cond.instanceMethod yX4_weight, Cond.selects RX4 yX4_weight yX4_weight, Cond.code yX4_weight cX4_weight 4 (some .int), Cond.fieldLink RX4 130 "UmbrellaVote$City" "weights" "[I", Cond.methodLink RX4 134 yX0_allWeights, Cond.instanceMethod yX0_allWeights, Cond.selects RX0 yX0_allWeights yX0_allWeights, Cond.code yX0_allWeights cX0_allWeights 3 (some .int), Cond.methodLink RL 69 yX5_weight, Cond.instanceMethod yX5_weight]
def wsL_law_r18 : List Cond := [Cond.selects RX5 yX5_weight yX5_weight, Cond.code yX5_weight cX5_weight 4 (some .int), Cond.methodLink RX5 143 yX5_weights, Cond.instanceMethod yX5_weights, Cond.selects RX5 yX5_weights yX5_weights, Cond.code yX5_weights cX5_weights 3 (some .int), Cond.methodLink RL 70 yX4_chance, Cond.instanceMethod yX4_chance, Cond.selects RX4 yX4_chance yX4_chance, Cond.code yX4_chance cX4_chance 4 (some .long), Cond.constantLong RX4 137 (-1000000000000000001), Cond.constantLong RX4 139 (-1000000000000000002), Cond.methodLink RX4 141 yX0_shareOf, Cond.instanceMethod yX0_shareOf, Cond.selects RX0 yX0_shareOf yX0_shareOf, Cond.code yX0_shareOf cX0_shareOf 6 (some .int), Cond.methodLink RX0 100 yJ6_bitCount_0f7a4, Cond.methodLink RX4 144 yX0_allShares, Cond.instanceMethod yX0_allShares, Cond.selects RX0 yX0_allShares yX0_allShares, Cond.code yX0_allShares cX0_allShares 1 (some .int), Cond.methodLink RX0 97 yX0_allWeights, Cond.methodLink RX4 147 yX4_fraction, Cond.static yX4_fraction]
def wsL_law_r19 : List Cond := [Cond.code yX4_fraction cX4_fraction 4 (some .long), Cond.methodLink RX4 205 yX4_commonDivisor, Cond.static yX4_commonDivisor, Cond.code yX4_commonDivisor cX4_commonDivisor 6 (some .int), Cond.methodLink RL 74 yX5_chance, Cond.instanceMethod yX5_chance, Cond.selects RX5 yX5_chance yX5_chance, Cond.code yX5_chance cX5_chance 3 (some .long), Cond.constantLong RX5 146 (6), Cond.constantLong RX5 148 (7), Cond.constantLong RX5 150 (-1000000000000000001), Cond.constantLong RX5 159 (-1000000000000000002), Cond.methodLink RX5 152 yX5_sixtieths, Cond.instanceMethod yX5_sixtieths, Cond.selects RX5 yX5_sixtieths yX5_sixtieths, Cond.code yX5_sixtieths cX5_sixtieths 8 (some .int), Cond.methodLink RX5 155 yX5_lowest, Cond.static yX5_lowest, Cond.code yX5_lowest cX5_lowest 11 (some .long), Cond.methodLink RL 75 yX4_best, Cond.instanceMethod yX4_best, Cond.selects RX4 yX4_best yX4_best, Cond.code yX4_best cX4_best 2 (some .int), Cond.methodLink RX4 151 yX4_bestPlace]
def wsL_law_r20 : List Cond := [Cond.instanceMethod yX4_bestPlace, Cond.selects RX4 yX4_bestPlace yX4_bestPlace, Cond.code yX4_bestPlace cX4_bestPlace 6 (some .int), Cond.fieldLink RX4 154 "UmbrellaVote$City" "slows" "[I", Cond.methodLink RX4 157 yX4_trialShare, Cond.instanceMethod yX4_trialShare, Cond.selects RX4 yX4_trialShare yX4_trialShare, Cond.code yX4_trialShare cX4_trialShare 4 (some .int), Cond.methodLink RX4 179 yX0_copyFrom, Cond.instanceMethod yX0_copyFrom, Cond.selects RX0 yX0_copyFrom yX0_copyFrom, Cond.code yX0_copyFrom cX0_copyFrom 2 none, Cond.fieldLink RX0 46 "UmbrellaVote$City" "cotton" "I", Cond.fieldLink RX0 52 "UmbrellaVote$City" "sights" "I", Cond.methodLink RX0 55 arraycopyName, Cond.native arraycopyName, Cond.static arraycopyName, Cond.initialized "java/lang/System", Cond.methodLink RL 78 yX5_best, Cond.instanceMethod yX5_best, Cond.selects RX5 yX5_best yX5_best, Cond.code yX5_best cX5_best 2 (some .int), Cond.fieldLink RX5 161 "UmbrellaVoteModel" "bestPlace" "I", Cond.methodLink RX5 167 yX5_findStand]
def wsL_law_r21 : List Cond := [Cond.instanceMethod yX5_findStand, Cond.selects RX5 yX5_findStand yX5_findStand, Cond.code yX5_findStand cX5_findStand 5 none, Cond.fieldLink RX5 164 "UmbrellaVoteModel" "bestIs" "I", Cond.methodLink RL 79 yX4_bestChance, Cond.instanceMethod yX4_bestChance, Cond.selects RX4 yX4_bestChance yX4_bestChance, Cond.code yX4_bestChance cX4_bestChance 4 (some .long), Cond.methodLink RL 82 yX5_bestChance, Cond.instanceMethod yX5_bestChance, Cond.selects RX5 yX5_bestChance yX5_bestChance, Cond.code yX5_bestChance cX5_bestChance 3 (some .long), Cond.methodLink RL 83 yX4_rests, Cond.instanceMethod yX4_rests, Cond.selects RX4 yX4_rests yX4_rests, Cond.code yX4_rests cX4_rests 2 (some .int), Cond.methodLink RX4 161 yX3_weigh, Cond.instanceMethod yX3_weigh, Cond.selects RX3 yX3_weigh yX3_weigh, Cond.code yX3_weigh cX3_weigh 3 none, Cond.fieldLink RX3 26 "UmbrellaVote$City" "weights" "[I", Cond.methodLink RX3 29 arraycopyName, Cond.fieldLink RX3 45 "UmbrellaVote$Resting" "rows" "I", Cond.methodLink RX3 35 yJ7_fill_53178]
def wsL_law_r22 : List Cond := [Cond.methodLink RX3 41 yX3_fillSlots, Cond.instanceMethod yX3_fillSlots, Cond.selects RX3 yX3_fillSlots yX3_fillSlots, Cond.code yX3_fillSlots cX3_fillSlots 4 none, Cond.constant RX3 53 (2147483647), Cond.fieldLink RX3 58 "UmbrellaVote$City" "holes" "I", Cond.fieldLink RX3 65 "UmbrellaVote$City" "slows" "[I", Cond.methodLink RX3 54 yX0_isThere, Cond.methodLink RX3 68 yX3_fillTimes, Cond.instanceMethod yX3_fillTimes, Cond.selects RX3 yX3_fillTimes yX3_fillTimes, Cond.code yX3_fillTimes cX3_fillTimes 6 none, Cond.methodLink RX3 72 yX3_pair, Cond.static yX3_pair, Cond.code yX3_pair cX3_pair 3 (some .int), Cond.methodLink RX3 76 yX0_openTimeAt, Cond.methodLink RX3 49 yX3_weighRow, Cond.instanceMethod yX3_weighRow, Cond.selects RX3 yX3_weighRow yX3_weighRow, Cond.code yX3_weighRow cX3_weighRow 18 none, Cond.methodLink RX3 79 Lib.Math.min.name, Cond.methodLink RX3 85 yX3_keep, Cond.instanceMethod yX3_keep, Cond.selects RX3 yX3_keep yX3_keep]
def wsL_law_r23 : List Cond := [Cond.code yX3_keep cX3_keep 4 none, Cond.methodLink RX3 89 Lib.Math.max.name, Cond.static Lib.Math.max.name, Cond.code Lib.Math.max.name Lib.Math.max.code 2 (some .int), Cond.methodLink RX4 164 yX3_howMany, Cond.instanceMethod yX3_howMany, Cond.selects RX3 yX3_howMany yX3_howMany, Cond.code yX3_howMany cX3_howMany 3 (some .int), Cond.methodLink RX3 92 yX3_isRest, Cond.instanceMethod yX3_isRest, Cond.selects RX3 yX3_isRest yX3_isRest, Cond.code yX3_isRest cX3_isRest 5 (some .boolean), Cond.methodLink RX4 167 yX3_row, Cond.instanceMethod yX3_row, Cond.selects RX3 yX3_row yX3_row, Cond.code yX3_row cX3_row 4 (some .int), Cond.methodLink RL 86 yX5_rests, Cond.instanceMethod yX5_rests, Cond.selects RX5 yX5_rests yX5_rests, Cond.code yX5_rests cX5_rests 7 (some .int), Cond.methodLink RX5 170 yX5_keepPlaces, Cond.instanceMethod yX5_keepPlaces, Cond.selects RX5 yX5_keepPlaces yX5_keepPlaces, Cond.code yX5_keepPlaces cX5_keepPlaces 2 none]
def wsL_law_r24 : List Cond := [Cond.methodLink RX5 173 yX5_layPlaces, Cond.instanceMethod yX5_layPlaces, Cond.selects RX5 yX5_layPlaces yX5_layPlaces, Cond.code yX5_layPlaces cX5_layPlaces 4 none, Cond.methodLink RX5 176 yX5_areAtRest, Cond.instanceMethod yX5_areAtRest, Cond.selects RX5 yX5_areAtRest yX5_areAtRest, Cond.code yX5_areAtRest cX5_areAtRest 3 (some .boolean), Cond.methodLink RX5 180 yX5_putPlaces, Cond.instanceMethod yX5_putPlaces, Cond.selects RX5 yX5_putPlaces yX5_putPlaces, Cond.code yX5_putPlaces cX5_putPlaces 2 none, Cond.methodLink RL 87 yX4_coup, Cond.instanceMethod yX4_coup, Cond.selects RX4 yX4_coup yX4_coup, Cond.code yX4_coup cX4_coup 3 (some .int), Cond.fieldLink RX4 170 "UmbrellaVote$City" "places" "[I", Cond.methodLink RX4 173 yX0_umbrellas, Cond.methodLink RX4 176 yX0_sprinkled, Cond.methodLink RL 90 yX5_coup, Cond.instanceMethod yX5_coup, Cond.selects RX5 yX5_coup yX5_coup, Cond.code yX5_coup cX5_coup 3 (some .int), Cond.methodLink RL 91 yX4_quick]
def wsL_law_r25 : List Cond := [Cond.instanceMethod yX4_quick, Cond.selects RX4 yX4_quick yX4_quick, Cond.code yX4_quick cX4_quick 6 (some .int), Cond.methodLink RL 95 yX5_quick, Cond.instanceMethod yX5_quick, Cond.selects RX5 yX5_quick yX5_quick, Cond.code yX5_quick cX5_quick 7 (some .int), Cond.constantLong RX5 183 (100), Cond.methodLink RL 96 yX4_seen, Cond.instanceMethod yX4_seen, Cond.selects RX4 yX4_seen yX4_seen, Cond.code yX4_seen cX4_seen 3 (some .int), Cond.fieldLink RX4 185 "UmbrellaVote$City" "sights" "I", Cond.methodLink RX4 182 yX0_addSight, Cond.instanceMethod yX0_addSight, Cond.selects RX0 yX0_addSight yX0_addSight, Cond.code yX0_addSight cX0_addSight 3 (some .boolean), Cond.methodLink RL 99 yX5_seen, Cond.instanceMethod yX5_seen, Cond.selects RX5 yX5_seen yX5_seen, Cond.code yX5_seen cX5_seen 3 (some .int), Cond.constantLong RX5 185 (2), Cond.constantLong RX5 187 (63), Cond.fieldLink RX5 189 "UmbrellaVoteModel" "sights" "I"]
def wsL_law_r26 : List Cond := [Cond.methodLink RL 100 yX4_forget, Cond.instanceMethod yX4_forget, Cond.selects RX4 yX4_forget yX4_forget, Cond.code yX4_forget cX4_forget 2 (some .int), Cond.methodLink RL 103 yX5_forget, Cond.instanceMethod yX5_forget, Cond.selects RX5 yX5_forget yX5_forget, Cond.code yX5_forget cX5_forget 2 (some .int), Cond.methodLink RL 104 yX4_fits, Cond.instanceMethod yX4_fits, Cond.selects RX4 yX4_fits yX4_fits, Cond.code yX4_fits cX4_fits 3 (some .int), Cond.methodLink RX4 188 yX0_fitsSights, Cond.instanceMethod yX0_fitsSights, Cond.selects RX0 yX0_fitsSights yX0_fitsSights, Cond.code yX0_fitsSights cX0_fitsSights 5 (some .boolean), Cond.methodLink RL 107 yX5_fits, Cond.instanceMethod yX5_fits, Cond.selects RX5 yX5_fits yX5_fits, Cond.code yX5_fits cX5_fits 6 (some .int), Cond.methodLink RX5 192 yX5_holds, Cond.instanceMethod yX5_holds, Cond.selects RX5 yX5_holds yX5_holds, Cond.code yX5_holds cX5_holds 3 (some .boolean)]
def wsL_law_r27 : List Cond := [Cond.methodLink RL 108 yX4_year, Cond.instanceMethod yX4_year, Cond.selects RX4 yX4_year yX4_year, Cond.code yX4_year cX4_year 6 (some .int), Cond.constant RX4 194 (65537), Cond.methodLink RX4 191 yX1_begin, Cond.methodLink RX4 195 yX1_rain, Cond.methodLink RX4 199 yX1_pass, Cond.methodLink RL 111 yX5_year, Cond.instanceMethod yX5_year, Cond.selects RX5 yX5_year yX5_year, Cond.code yX5_year cX5_year 8 (some .int), Cond.constantLong RX5 195 (9999), Cond.constantLong RX5 197 (99), Cond.constantLong RX5 199 (75), Cond.constantLong RX5 201 (74), Cond.constantLong RX5 203 (65537), Cond.methodLink RL 112 yX4_image, Cond.instanceMethod yX4_image, Cond.selects RX4 yX4_image yX4_image, Cond.code yX4_image cX4_image 3 (some .int), Cond.methodLink RL 115 yX5_image, Cond.instanceMethod yX5_image, Cond.selects RX5 yX5_image yX5_image]
def wsL_law_r28 : List Cond := [Cond.code yX5_image cX5_image 2 (some .int), Cond.fieldLink RX5 209 "UmbrellaVoteModel" "keptAt" "I", Cond.fieldLink RX5 205 "UmbrellaVoteModel" "isWriting" "Z", Cond.methodLink RX5 215 yX5_passAll, Cond.instanceMethod yX5_passAll, Cond.selects RX5 yX5_passAll yX5_passAll, Cond.code yX5_passAll cX5_passAll 2 none, Cond.methodLink RX5 212 yX5_carry, Cond.instanceMethod yX5_carry, Cond.selects RX5 yX5_carry yX5_carry, Cond.code yX5_carry cX5_carry 3 (some .int), Cond.methodLink RL 116 yX4_restore, Cond.instanceMethod yX4_restore, Cond.selects RX4 yX4_restore yX4_restore, Cond.code yX4_restore cX4_restore 3 (some .int), Cond.methodLink RL 119 yX5_restore, Cond.instanceMethod yX5_restore, Cond.selects RX5 yX5_restore yX5_restore, Cond.code yX5_restore cX5_restore 2 (some .int), Cond.methodLink RL 120 yX4_told, Cond.instanceMethod yX4_told, Cond.selects RX4 yX4_told yX4_told, Cond.code yX4_told cX4_told 2 (some .int), Cond.methodLink RX4 202 yX4_toldOfPerson]
def wsL_law_r29 : List Cond := [Cond.instanceMethod yX4_toldOfPerson, Cond.selects RX4 yX4_toldOfPerson yX4_toldOfPerson, Cond.code yX4_toldOfPerson cX4_toldOfPerson 3 (some .int), Cond.methodLink RL 123 yX5_told, Cond.instanceMethod yX5_told, Cond.selects RX5 yX5_told yX5_told, Cond.code yX5_told cX5_told 5 (some .int), Cond.constantLong RX5 218 (10), Cond.constantLong RX5 220 (19), Cond.constantLong RX5 222 (20), Cond.constantLong RX5 224 (79)]
def wsL_law : List Cond := (wsL_law_r1 ++ (wsL_law_r2 ++ (wsL_law_r3 ++ (wsL_law_r4 ++ (wsL_law_r5 ++ (wsL_law_r6 ++ (wsL_law_r7 ++ (wsL_law_r8 ++ (wsL_law_r9 ++ (wsL_law_r10 ++ (wsL_law_r11 ++ (wsL_law_r12 ++ (wsL_law_r13 ++ (wsL_law_r14 ++ (wsL_law_r15 ++ (wsL_law_r16 ++ (wsL_law_r17 ++ (wsL_law_r18 ++ (wsL_law_r19 ++ (wsL_law_r20 ++ (wsL_law_r21 ++ (wsL_law_r22 ++ (wsL_law_r23 ++ (wsL_law_r24 ++ (wsL_law_r25 ++ (wsL_law_r26 ++ (wsL_law_r27 ++ (wsL_law_r28 ++ wsL_law_r29)))))))))))))))))))))))))))) ++ wsX40 ++ wsX50 ++ wsX00 ++ wsX20 ++ wsX10 ++ wsX30 ++ ([] : List Cond)
theorem inlX0 : ∀ w ∈ wsX00, w ∈ wsL_law := fun _ h => List.mem_append_left _ (List.mem_append_left _ (List.mem_append_left _ (List.mem_append_left _ (List.mem_append_right _ h))))
theorem inlX1 : ∀ w ∈ wsX10, w ∈ wsL_law := fun _ h => List.mem_append_left _ (List.mem_append_left _ (List.mem_append_right _ h))
theorem inlX2 : ∀ w ∈ wsX20, w ∈ wsL_law := fun _ h => List.mem_append_left _ (List.mem_append_left _ (List.mem_append_left _ (List.mem_append_right _ h)))
theorem inlX3 : ∀ w ∈ wsX30, w ∈ wsL_law := fun _ h => List.mem_append_left _ (List.mem_append_right _ h)
theorem inlX4 : ∀ w ∈ wsX40, w ∈ wsL_law := fun _ h => List.mem_append_left _ (List.mem_append_left _ (List.mem_append_left _ (List.mem_append_left _ (List.mem_append_left _ (List.mem_append_left _ (List.mem_append_right _ h))))))
theorem inlX5 : ∀ w ∈ wsX50, w ∈ wsL_law := fun _ h => List.mem_append_left _ (List.mem_append_left _ (List.mem_append_left _ (List.mem_append_left _ (List.mem_append_left _ (List.mem_append_right _ h)))))
set_option maxRecDepth 20000 in
theorem ggX0_init_J7_fill_53178 : GoodIn wsX0_init wsJ7_fill_53178 := goodIn_r _ [15] (by decide +kernel) (by decide +kernel)
set_option maxRecDepth 20000 in
theorem gX0_init_J7_fill_53178 : GoodIn wsX0_init (va_wsS RX0 34 yJ7_fill_53178 wsJ7_fill_53178) := goodIn_app (goodIn_of _ (by decide +kernel)) ggX0_init_J7_fill_53178
end
section
theorem dX0_init_0 : decode cX0_init 0 = .ok (.aload_n 0, 1) := by decide +kernel
theorem dX0_init_1 : decode cX0_init 1 = .ok (.invokespecial 3, 3) := by decide +kernel
theorem dX0_init_4 : decode cX0_init 4 = .ok (.aload_n 0, 1) := by decide +kernel
theorem dX0_init_5 : decode cX0_init 5 = .ok (.iconst 2, 1) := by decide +kernel
theorem dX0_init_6 : decode cX0_init 6 = .ok (.putfield 9, 3) := by decide +kernel
theorem dX0_init_9 : decode cX0_init 9 = .ok (.aload_n 0, 1) := by decide +kernel
theorem dX0_init_10 : decode cX0_init 10 = .ok (.iconst 5, 1) := by decide +kernel
theorem dX0_init_11 : decode cX0_init 11 = .ok (.putfield 15, 3) := by decide +kernel
theorem dX0_init_14 : decode cX0_init 14 = .ok (.aload_n 0, 1) := by decide +kernel
theorem dX0_init_15 : decode cX0_init 15 = .ok (.bipush 6, 2) := by decide +kernel
theorem dX0_init_17 : decode cX0_init 17 = .ok (.newarray .int, 2) := by decide +kernel
theorem dX0_init_19 : decode cX0_init 19 = .ok (.putfield 18, 3) := by decide +kernel
theorem dX0_init_22 : decode cX0_init 22 = .ok (.aload_n 0, 1) := by decide +kernel
theorem dX0_init_23 : decode cX0_init 23 = .ok (.bipush 6, 2) := by decide +kernel
theorem dX0_init_25 : decode cX0_init 25 = .ok (.newarray .int, 2) := by decide +kernel
theorem dX0_init_27 : decode cX0_init 27 = .ok (.putfield 22, 3) := by decide +kernel
theorem dX0_init_30 : decode cX0_init 30 = .ok (.aload_n 0, 1) := by decide +kernel
theorem dX0_init_31 : decode cX0_init 31 = .ok (.bipush 10, 2) := by decide +kernel
theorem dX0_init_33 : decode cX0_init 33 = .ok (.newarray .int, 2) := by decide +kernel
theorem dX0_init_35 : decode cX0_init 35 = .ok (.putfield 25, 3) := by decide +kernel
theorem dX0_init_38 : decode cX0_init 38 = .ok (.aload_n 0, 1) := by decide +kernel
theorem dX0_init_39 : decode cX0_init 39 = .ok (.bipush 6, 2) := by decide +kernel
theorem dX0_init_41 : decode cX0_init 41 = .ok (.newarray .int, 2) := by decide +kernel
theorem dX0_init_43 : decode cX0_init 43 = .ok (.putfield 28, 3) := by decide +kernel
theorem dX0_init_46 : decode cX0_init 46 = .ok (.aload_n 0, 1) := by decide +kernel
theorem dX0_init_47 : decode cX0_init 47 = .ok (.bipush 6, 2) := by decide +kernel
theorem dX0_init_49 : decode cX0_init 49 = .ok (.newarray .int, 2) := by decide +kernel
theorem dX0_init_51 : decode cX0_init 51 = .ok (.putfield 31, 3) := by decide +kernel
theorem dX0_init_54 : decode cX0_init 54 = .ok (.aload_n 0, 1) := by decide +kernel
theorem dX0_init_55 : decode cX0_init 55 = .ok (.getfield 25, 3) := by decide +kernel
theorem dX0_init_58 : decode cX0_init 58 = .ok (.iconst 1, 1) := by decide +kernel
theorem dX0_init_59 : decode cX0_init 59 = .ok (.invokestatic 34, 3) := by decide +kernel
theorem dX0_init_62 : decode cX0_init 62 = .ok (.return_, 1) := by decide +kernel
theorem dX0_copyFrom_0 : decode cX0_copyFrom 0 = .ok (.aload_n 0, 1) := by decide +kernel
theorem dX0_copyFrom_1 : decode cX0_copyFrom 1 = .ok (.aload_n 1, 1) := by decide +kernel
theorem dX0_copyFrom_2 : decode cX0_copyFrom 2 = .ok (.getfield 9, 3) := by decide +kernel
theorem dX0_copyFrom_5 : decode cX0_copyFrom 5 = .ok (.putfield 9, 3) := by decide +kernel
theorem dX0_copyFrom_8 : decode cX0_copyFrom 8 = .ok (.aload_n 0, 1) := by decide +kernel
theorem dX0_copyFrom_9 : decode cX0_copyFrom 9 = .ok (.aload_n 1, 1) := by decide +kernel
theorem dX0_copyFrom_10 : decode cX0_copyFrom 10 = .ok (.getfield 15, 3) := by decide +kernel
theorem dX0_copyFrom_13 : decode cX0_copyFrom 13 = .ok (.putfield 15, 3) := by decide +kernel
theorem dX0_copyFrom_16 : decode cX0_copyFrom 16 = .ok (.aload_n 0, 1) := by decide +kernel
theorem dX0_copyFrom_17 : decode cX0_copyFrom 17 = .ok (.aload_n 1, 1) := by decide +kernel
theorem dX0_copyFrom_18 : decode cX0_copyFrom 18 = .ok (.getfield 40, 3) := by decide +kernel
theorem dX0_copyFrom_21 : decode cX0_copyFrom 21 = .ok (.putfield 40, 3) := by decide +kernel
theorem dX0_copyFrom_24 : decode cX0_copyFrom 24 = .ok (.aload_n 0, 1) := by decide +kernel
theorem dX0_copyFrom_25 : decode cX0_copyFrom 25 = .ok (.aload_n 1, 1) := by decide +kernel
theorem dX0_copyFrom_26 : decode cX0_copyFrom 26 = .ok (.getfield 43, 3) := by decide +kernel
theorem dX0_copyFrom_29 : decode cX0_copyFrom 29 = .ok (.putfield 43, 3) := by decide +kernel
theorem dX0_copyFrom_32 : decode cX0_copyFrom 32 = .ok (.aload_n 0, 1) := by decide +kernel
theorem dX0_copyFrom_33 : decode cX0_copyFrom 33 = .ok (.aload_n 1, 1) := by decide +kernel
theorem dX0_copyFrom_34 : decode cX0_copyFrom 34 = .ok (.getfield 46, 3) := by decide +kernel
theorem dX0_copyFrom_37 : decode cX0_copyFrom 37 = .ok (.putfield 46, 3) := by decide +kernel
theorem dX0_copyFrom_40 : decode cX0_copyFrom 40 = .ok (.aload_n 0, 1) := by decide +kernel
theorem dX0_copyFrom_41 : decode cX0_copyFrom 41 = .ok (.aload_n 1, 1) := by decide +kernel
theorem dX0_copyFrom_42 : decode cX0_copyFrom 42 = .ok (.getfield 49, 3) := by decide +kernel
theorem dX0_copyFrom_45 : decode cX0_copyFrom 45 = .ok (.putfield 49, 3) := by decide +kernel
theorem dX0_copyFrom_48 : decode cX0_copyFrom 48 = .ok (.aload_n 0, 1) := by decide +kernel
theorem dX0_copyFrom_49 : decode cX0_copyFrom 49 = .ok (.aload_n 1, 1) := by decide +kernel
theorem dX0_copyFrom_50 : decode cX0_copyFrom 50 = .ok (.getfield 52, 3) := by decide +kernel
theorem dX0_copyFrom_53 : decode cX0_copyFrom 53 = .ok (.putfield 52, 3) := by decide +kernel
theorem dX0_copyFrom_56 : decode cX0_copyFrom 56 = .ok (.aload_n 1, 1) := by decide +kernel
theorem dX0_copyFrom_57 : decode cX0_copyFrom 57 = .ok (.getfield 18, 3) := by decide +kernel
theorem dX0_copyFrom_60 : decode cX0_copyFrom 60 = .ok (.iconst 0, 1) := by decide +kernel
theorem dX0_copyFrom_61 : decode cX0_copyFrom 61 = .ok (.aload_n 0, 1) := by decide +kernel
theorem dX0_copyFrom_62 : decode cX0_copyFrom 62 = .ok (.getfield 18, 3) := by decide +kernel
theorem dX0_copyFrom_65 : decode cX0_copyFrom 65 = .ok (.iconst 0, 1) := by decide +kernel
theorem dX0_copyFrom_66 : decode cX0_copyFrom 66 = .ok (.bipush 6, 2) := by decide +kernel
theorem dX0_copyFrom_68 : decode cX0_copyFrom 68 = .ok (.invokestatic 55, 3) := by decide +kernel
theorem dX0_copyFrom_71 : decode cX0_copyFrom 71 = .ok (.aload_n 1, 1) := by decide +kernel
theorem dX0_copyFrom_72 : decode cX0_copyFrom 72 = .ok (.getfield 22, 3) := by decide +kernel
theorem dX0_copyFrom_75 : decode cX0_copyFrom 75 = .ok (.iconst 0, 1) := by decide +kernel
theorem dX0_copyFrom_76 : decode cX0_copyFrom 76 = .ok (.aload_n 0, 1) := by decide +kernel
theorem dX0_copyFrom_77 : decode cX0_copyFrom 77 = .ok (.getfield 22, 3) := by decide +kernel
theorem dX0_copyFrom_80 : decode cX0_copyFrom 80 = .ok (.iconst 0, 1) := by decide +kernel
theorem dX0_copyFrom_81 : decode cX0_copyFrom 81 = .ok (.bipush 6, 2) := by decide +kernel
theorem dX0_copyFrom_83 : decode cX0_copyFrom 83 = .ok (.invokestatic 55, 3) := by decide +kernel
theorem dX0_copyFrom_86 : decode cX0_copyFrom 86 = .ok (.aload_n 1, 1) := by decide +kernel
theorem dX0_copyFrom_87 : decode cX0_copyFrom 87 = .ok (.getfield 25, 3) := by decide +kernel
theorem dX0_copyFrom_90 : decode cX0_copyFrom 90 = .ok (.iconst 0, 1) := by decide +kernel
theorem dX0_copyFrom_91 : decode cX0_copyFrom 91 = .ok (.aload_n 0, 1) := by decide +kernel
theorem dX0_copyFrom_92 : decode cX0_copyFrom 92 = .ok (.getfield 25, 3) := by decide +kernel
theorem dX0_copyFrom_95 : decode cX0_copyFrom 95 = .ok (.iconst 0, 1) := by decide +kernel
theorem dX0_copyFrom_96 : decode cX0_copyFrom 96 = .ok (.bipush 10, 2) := by decide +kernel
theorem dX0_copyFrom_98 : decode cX0_copyFrom 98 = .ok (.invokestatic 55, 3) := by decide +kernel
theorem dX0_copyFrom_101 : decode cX0_copyFrom 101 = .ok (.aload_n 1, 1) := by decide +kernel
theorem dX0_copyFrom_102 : decode cX0_copyFrom 102 = .ok (.getfield 28, 3) := by decide +kernel
theorem dX0_copyFrom_105 : decode cX0_copyFrom 105 = .ok (.iconst 0, 1) := by decide +kernel
theorem dX0_copyFrom_106 : decode cX0_copyFrom 106 = .ok (.aload_n 0, 1) := by decide +kernel
theorem dX0_copyFrom_107 : decode cX0_copyFrom 107 = .ok (.getfield 28, 3) := by decide +kernel
theorem dX0_copyFrom_110 : decode cX0_copyFrom 110 = .ok (.iconst 0, 1) := by decide +kernel
theorem dX0_copyFrom_111 : decode cX0_copyFrom 111 = .ok (.bipush 6, 2) := by decide +kernel
theorem dX0_copyFrom_113 : decode cX0_copyFrom 113 = .ok (.invokestatic 55, 3) := by decide +kernel
theorem dX0_copyFrom_116 : decode cX0_copyFrom 116 = .ok (.aload_n 1, 1) := by decide +kernel
theorem dX0_copyFrom_117 : decode cX0_copyFrom 117 = .ok (.getfield 31, 3) := by decide +kernel
theorem dX0_copyFrom_120 : decode cX0_copyFrom 120 = .ok (.iconst 0, 1) := by decide +kernel
theorem dX0_copyFrom_121 : decode cX0_copyFrom 121 = .ok (.aload_n 0, 1) := by decide +kernel
theorem dX0_copyFrom_122 : decode cX0_copyFrom 122 = .ok (.getfield 31, 3) := by decide +kernel
theorem dX0_copyFrom_125 : decode cX0_copyFrom 125 = .ok (.iconst 0, 1) := by decide +kernel
theorem dX0_copyFrom_126 : decode cX0_copyFrom 126 = .ok (.bipush 6, 2) := by decide +kernel
theorem dX0_copyFrom_128 : decode cX0_copyFrom 128 = .ok (.invokestatic 55, 3) := by decide +kernel
theorem dX0_copyFrom_131 : decode cX0_copyFrom 131 = .ok (.return_, 1) := by decide +kernel
set_option maxRecDepth 20000 in
theorem ggX0_isThere_X4_within : GoodIn wsX0_isThere wsX4_within := goodIn_r _ [4] (by decide +kernel) (by decide +kernel)
set_option maxRecDepth 20000 in
theorem gX0_isThere_X4_within_n61 : GoodIn wsX0_isThere (wsX4_within) := ggX0_isThere_X4_within
set_option maxRecDepth 20000 in
theorem ggX0_isThere_X4_hasBit : GoodIn wsX0_isThere wsX4_hasBit := goodIn_r _ [6] (by decide +kernel) (by decide +kernel)
set_option maxRecDepth 20000 in
theorem gX0_isThere_X4_hasBit_n65 : GoodIn wsX0_isThere (wsX4_hasBit) := ggX0_isThere_X4_hasBit
theorem dX0_isThere_0 : decode cX0_isThere 0 = .ok (.iload_n 1, 1) := by decide +kernel
theorem dX0_isThere_1 : decode cX0_isThere 1 = .ok (.iconst 0, 1) := by decide +kernel
theorem dX0_isThere_2 : decode cX0_isThere 2 = .ok (.iconst 5, 1) := by decide +kernel
theorem dX0_isThere_3 : decode cX0_isThere 3 = .ok (.invokestatic 61, 3) := by decide +kernel
theorem dX0_isThere_6 : decode cX0_isThere 6 = .ok (.ifCond .eq 18, 3) := by decide +kernel
theorem dX0_isThere_9 : decode cX0_isThere 9 = .ok (.aload_n 0, 1) := by decide +kernel
theorem dX0_isThere_10 : decode cX0_isThere 10 = .ok (.getfield 40, 3) := by decide +kernel
theorem dX0_isThere_13 : decode cX0_isThere 13 = .ok (.iload_n 1, 1) := by decide +kernel
theorem dX0_isThere_14 : decode cX0_isThere 14 = .ok (.invokestatic 65, 3) := by decide +kernel
theorem dX0_isThere_17 : decode cX0_isThere 17 = .ok (.ifCond .eq 7, 3) := by decide +kernel
theorem dX0_isThere_20 : decode cX0_isThere 20 = .ok (.iconst 1, 1) := by decide +kernel
theorem dX0_isThere_21 : decode cX0_isThere 21 = .ok (.goto 4, 3) := by decide +kernel
theorem dX0_isThere_24 : decode cX0_isThere 24 = .ok (.iconst 0, 1) := by decide +kernel
theorem dX0_isThere_25 : decode cX0_isThere 25 = .ok (.ireturn, 1) := by decide +kernel
set_option maxRecDepth 20000 in
theorem ggX0_put_X4_within : GoodIn wsX0_put wsX4_within := goodIn_r _ [5] (by decide +kernel) (by decide +kernel)
set_option maxRecDepth 20000 in
theorem gX0_put_X4_within_n61 : GoodIn wsX0_put (wsX4_within) := ggX0_put_X4_within
theorem dX0_put_0 : decode cX0_put 0 = .ok (.iload_n 1, 1) := by decide +kernel
theorem dX0_put_1 : decode cX0_put 1 = .ok (.iconst 0, 1) := by decide +kernel
theorem dX0_put_2 : decode cX0_put 2 = .ok (.iconst 5, 1) := by decide +kernel
theorem dX0_put_3 : decode cX0_put 3 = .ok (.invokestatic 61, 3) := by decide +kernel
theorem dX0_put_6 : decode cX0_put 6 = .ok (.ifCond .eq 17, 3) := by decide +kernel
theorem dX0_put_9 : decode cX0_put 9 = .ok (.aload_n 0, 1) := by decide +kernel
theorem dX0_put_10 : decode cX0_put 10 = .ok (.getfield 18, 3) := by decide +kernel
theorem dX0_put_13 : decode cX0_put 13 = .ok (.iload_n 1, 1) := by decide +kernel
theorem dX0_put_14 : decode cX0_put 14 = .ok (.iload_n 2, 1) := by decide +kernel
theorem dX0_put_15 : decode cX0_put 15 = .ok (.iastore, 1) := by decide +kernel
theorem dX0_put_16 : decode cX0_put 16 = .ok (.aload_n 0, 1) := by decide +kernel
theorem dX0_put_17 : decode cX0_put 17 = .ok (.getfield 22, 3) := by decide +kernel
theorem dX0_put_20 : decode cX0_put 20 = .ok (.iload_n 1, 1) := by decide +kernel
theorem dX0_put_21 : decode cX0_put 21 = .ok (.iload_n 3, 1) := by decide +kernel
theorem dX0_put_22 : decode cX0_put 22 = .ok (.iastore, 1) := by decide +kernel
theorem dX0_put_23 : decode cX0_put 23 = .ok (.return_, 1) := by decide +kernel
theorem dX0_umbrellas_0 : decode cX0_umbrellas 0 = .ok (.aload_n 0, 1) := by decide +kernel
theorem dX0_umbrellas_1 : decode cX0_umbrellas 1 = .ok (.getfield 40, 3) := by decide +kernel
theorem dX0_umbrellas_4 : decode cX0_umbrellas 4 = .ok (.aload_n 0, 1) := by decide +kernel
theorem dX0_umbrellas_5 : decode cX0_umbrellas 5 = .ok (.getfield 43, 3) := by decide +kernel
theorem dX0_umbrellas_8 : decode cX0_umbrellas 8 = .ok (.iconst (-1), 1) := by decide +kernel
theorem dX0_umbrellas_9 : decode cX0_umbrellas 9 = .ok (.ixor, 1) := by decide +kernel
theorem dX0_umbrellas_10 : decode cX0_umbrellas 10 = .ok (.iand, 1) := by decide +kernel
theorem dX0_umbrellas_11 : decode cX0_umbrellas 11 = .ok (.ireturn, 1) := by decide +kernel
set_option maxRecDepth 20000 in
theorem ggX0_openTime_X4_within : GoodIn wsX0_openTime wsX4_within := goodIn_r _ [5] (by decide +kernel) (by decide +kernel)
set_option maxRecDepth 20000 in
theorem gX0_openTime_X4_within_n61 : GoodIn wsX0_openTime (wsX4_within) := ggX0_openTime_X4_within
set_option maxRecDepth 20000 in
theorem ggX0_openTime_X0_openTimeAt : GoodIn wsX0_openTime wsX0_openTimeAt := goodIn_r _ [10, 11, 12, 13, 14, 15, 16, 17, 18, 4, 19, 20, 21, 22, 23, 24, 25, 26, 27, 28, 29, 30, 31] (by decide +kernel) (by decide +kernel)
set_option maxRecDepth 20000 in
theorem gX0_openTime_X0_openTimeAt : GoodIn wsX0_openTime (wsV RX0 69 RX0 yX0_openTimeAt wsX0_openTimeAt) := goodIn_app (goodIn_of _ (by decide +kernel)) ggX0_openTime_X0_openTimeAt
theorem dX0_openTime_0 : decode cX0_openTime 0 = .ok (.iload_n 1, 1) := by decide +kernel
theorem dX0_openTime_1 : decode cX0_openTime 1 = .ok (.iconst 0, 1) := by decide +kernel
theorem dX0_openTime_2 : decode cX0_openTime 2 = .ok (.iconst 5, 1) := by decide +kernel
theorem dX0_openTime_3 : decode cX0_openTime 3 = .ok (.invokestatic 61, 3) := by decide +kernel
theorem dX0_openTime_6 : decode cX0_openTime 6 = .ok (.ifCond .eq 23, 3) := by decide +kernel
theorem dX0_openTime_9 : decode cX0_openTime 9 = .ok (.aload_n 0, 1) := by decide +kernel
theorem dX0_openTime_10 : decode cX0_openTime 10 = .ok (.aload_n 0, 1) := by decide +kernel
theorem dX0_openTime_11 : decode cX0_openTime 11 = .ok (.getfield 18, 3) := by decide +kernel
theorem dX0_openTime_14 : decode cX0_openTime 14 = .ok (.iload_n 1, 1) := by decide +kernel
theorem dX0_openTime_15 : decode cX0_openTime 15 = .ok (.iaload, 1) := by decide +kernel
theorem dX0_openTime_16 : decode cX0_openTime 16 = .ok (.aload_n 0, 1) := by decide +kernel
theorem dX0_openTime_17 : decode cX0_openTime 17 = .ok (.getfield 22, 3) := by decide +kernel
theorem dX0_openTime_20 : decode cX0_openTime 20 = .ok (.iload_n 1, 1) := by decide +kernel
theorem dX0_openTime_21 : decode cX0_openTime 21 = .ok (.iaload, 1) := by decide +kernel
theorem dX0_openTime_22 : decode cX0_openTime 22 = .ok (.iload_n 2, 1) := by decide +kernel
theorem dX0_openTime_23 : decode cX0_openTime 23 = .ok (.invokevirtual 69, 3) := by decide +kernel
theorem dX0_openTime_26 : decode cX0_openTime 26 = .ok (.goto 5, 3) := by decide +kernel
theorem dX0_openTime_29 : decode cX0_openTime 29 = .ok (.bipush (-6), 2) := by decide +kernel
theorem dX0_openTime_31 : decode cX0_openTime 31 = .ok (.ireturn, 1) := by decide +kernel
set_option maxRecDepth 20000 in
theorem ggX0_openTimeAt_X4_hasBit : GoodIn wsX0_openTimeAt wsX4_hasBit := goodIn_r _ [10] (by decide +kernel) (by decide +kernel)
set_option maxRecDepth 20000 in
theorem gX0_openTimeAt_X4_hasBit_n65 : GoodIn wsX0_openTimeAt (wsX4_hasBit) := ggX0_openTimeAt_X4_hasBit
theorem dX0_openTimeAt_0 : decode cX0_openTimeAt 0 = .ok (.aload_n 0, 1) := by decide +kernel
theorem dX0_openTimeAt_1 : decode cX0_openTimeAt 1 = .ok (.getfield 49, 3) := by decide +kernel
theorem dX0_openTimeAt_4 : decode cX0_openTimeAt 4 = .ok (.iload_n 1, 1) := by decide +kernel
theorem dX0_openTimeAt_5 : decode cX0_openTimeAt 5 = .ok (.invokestatic 65, 3) := by decide +kernel
theorem dX0_openTimeAt_8 : decode cX0_openTimeAt 8 = .ok (.ifCond .eq 10, 3) := by decide +kernel
theorem dX0_openTimeAt_11 : decode cX0_openTimeAt 11 = .ok (.aload_n 0, 1) := by decide +kernel
theorem dX0_openTimeAt_12 : decode cX0_openTimeAt 12 = .ok (.getfield 15, 3) := by decide +kernel
theorem dX0_openTimeAt_15 : decode cX0_openTimeAt 15 = .ok (.goto 4, 3) := by decide +kernel
theorem dX0_openTimeAt_18 : decode cX0_openTimeAt 18 = .ok (.iconst 0, 1) := by decide +kernel
theorem dX0_openTimeAt_19 : decode cX0_openTimeAt 19 = .ok (.istore 4, 2) := by decide +kernel
theorem dX0_openTimeAt_21 : decode cX0_openTimeAt 21 = .ok (.iload_n 1, 1) := by decide +kernel
theorem dX0_openTimeAt_22 : decode cX0_openTimeAt 22 = .ok (.iload_n 3, 1) := by decide +kernel
theorem dX0_openTimeAt_23 : decode cX0_openTimeAt 23 = .ok (.isub, 1) := by decide +kernel
theorem dX0_openTimeAt_24 : decode cX0_openTimeAt 24 = .ok (.invokestatic 73, 3) := by decide +kernel
theorem dX0_openTimeAt_27 : decode cX0_openTimeAt 27 = .ok (.aload_n 0, 1) := by decide +kernel
theorem dX0_openTimeAt_28 : decode cX0_openTimeAt 28 = .ok (.getfield 9, 3) := by decide +kernel
theorem dX0_openTimeAt_31 : decode cX0_openTimeAt 31 = .ok (.imul, 1) := by decide +kernel
theorem dX0_openTimeAt_32 : decode cX0_openTimeAt 32 = .ok (.iload 4, 2) := by decide +kernel
theorem dX0_openTimeAt_34 : decode cX0_openTimeAt 34 = .ok (.iadd, 1) := by decide +kernel
theorem dX0_openTimeAt_35 : decode cX0_openTimeAt 35 = .ok (.iload_n 2, 1) := by decide +kernel
theorem dX0_openTimeAt_36 : decode cX0_openTimeAt 36 = .ok (.iadd, 1) := by decide +kernel
theorem dX0_openTimeAt_37 : decode cX0_openTimeAt 37 = .ok (.ireturn, 1) := by decide +kernel
set_option maxRecDepth 20000 in
theorem ggX0_firstOf_X4_hasBit : GoodIn wsX0_firstOf wsX4_hasBit := goodIn_r _ [10] (by decide +kernel) (by decide +kernel)
set_option maxRecDepth 20000 in
theorem gX0_firstOf_X4_hasBit_n65 : GoodIn wsX0_firstOf (wsX4_hasBit) := ggX0_firstOf_X4_hasBit
set_option maxRecDepth 20000 in
theorem ggX0_firstOf_X0_openTimeAt : GoodIn wsX0_firstOf wsX0_openTimeAt := goodIn_r _ [15, 16, 17, 18, 19, 6, 20, 21, 8, 9, 10, 22, 23, 24, 25, 26, 27, 28, 29, 30, 31, 32, 33] (by decide +kernel) (by decide +kernel)
set_option maxRecDepth 20000 in
theorem gX0_firstOf_X0_openTimeAt : GoodIn wsX0_firstOf (wsV RX0 69 RX0 yX0_openTimeAt wsX0_openTimeAt) := goodIn_app (goodIn_of _ (by decide +kernel)) ggX0_firstOf_X0_openTimeAt
theorem dX0_firstOf_0 : decode cX0_firstOf 0 = .ok (.iconst 0, 1) := by decide +kernel
theorem dX0_firstOf_1 : decode cX0_firstOf 1 = .ok (.istore_n 3, 1) := by decide +kernel
theorem dX0_firstOf_2 : decode cX0_firstOf 2 = .ok (.ldc 81, 2) := by decide +kernel
theorem dX0_firstOf_4 : decode cX0_firstOf 4 = .ok (.istore 4, 2) := by decide +kernel
theorem dX0_firstOf_6 : decode cX0_firstOf 6 = .ok (.iconst 0, 1) := by decide +kernel
theorem dX0_firstOf_7 : decode cX0_firstOf 7 = .ok (.istore 5, 2) := by decide +kernel
theorem dX0_firstOf_9 : decode cX0_firstOf 9 = .ok (.iload 5, 2) := by decide +kernel
theorem dX0_firstOf_11 : decode cX0_firstOf 11 = .ok (.bipush 6, 2) := by decide +kernel
theorem dX0_firstOf_13 : decode cX0_firstOf 13 = .ok (.if_icmp .ge 80, 3) := by decide +kernel
theorem dX0_firstOf_16 : decode cX0_firstOf 16 = .ok (.iload_n 1, 1) := by decide +kernel
theorem dX0_firstOf_17 : decode cX0_firstOf 17 = .ok (.iload 5, 2) := by decide +kernel
theorem dX0_firstOf_19 : decode cX0_firstOf 19 = .ok (.invokestatic 65, 3) := by decide +kernel
theorem dX0_firstOf_22 : decode cX0_firstOf 22 = .ok (.ifCond .eq 65, 3) := by decide +kernel
theorem dX0_firstOf_25 : decode cX0_firstOf 25 = .ok (.aload_n 0, 1) := by decide +kernel
theorem dX0_firstOf_26 : decode cX0_firstOf 26 = .ok (.aload_n 0, 1) := by decide +kernel
theorem dX0_firstOf_27 : decode cX0_firstOf 27 = .ok (.getfield 18, 3) := by decide +kernel
theorem dX0_firstOf_30 : decode cX0_firstOf 30 = .ok (.iload 5, 2) := by decide +kernel
theorem dX0_firstOf_32 : decode cX0_firstOf 32 = .ok (.iaload, 1) := by decide +kernel
theorem dX0_firstOf_33 : decode cX0_firstOf 33 = .ok (.aload_n 0, 1) := by decide +kernel
theorem dX0_firstOf_34 : decode cX0_firstOf 34 = .ok (.getfield 22, 3) := by decide +kernel
theorem dX0_firstOf_37 : decode cX0_firstOf 37 = .ok (.iload 5, 2) := by decide +kernel
theorem dX0_firstOf_39 : decode cX0_firstOf 39 = .ok (.iaload, 1) := by decide +kernel
theorem dX0_firstOf_40 : decode cX0_firstOf 40 = .ok (.iload_n 2, 1) := by decide +kernel
theorem dX0_firstOf_41 : decode cX0_firstOf 41 = .ok (.invokevirtual 69, 3) := by decide +kernel
theorem dX0_firstOf_44 : decode cX0_firstOf 44 = .ok (.istore 6, 2) := by decide +kernel
theorem dX0_firstOf_46 : decode cX0_firstOf 46 = .ok (.iload 6, 2) := by decide +kernel
theorem dX0_firstOf_48 : decode cX0_firstOf 48 = .ok (.iload 4, 2) := by decide +kernel
theorem dX0_firstOf_50 : decode cX0_firstOf 50 = .ok (.if_icmp .ge 10, 3) := by decide +kernel
theorem dX0_firstOf_53 : decode cX0_firstOf 53 = .ok (.iconst 1, 1) := by decide +kernel
theorem dX0_firstOf_54 : decode cX0_firstOf 54 = .ok (.iload 5, 2) := by decide +kernel
theorem dX0_firstOf_56 : decode cX0_firstOf 56 = .ok (.ishl, 1) := by decide +kernel
theorem dX0_firstOf_57 : decode cX0_firstOf 57 = .ok (.goto 20, 3) := by decide +kernel
theorem dX0_firstOf_60 : decode cX0_firstOf 60 = .ok (.iload 6, 2) := by decide +kernel
theorem dX0_firstOf_62 : decode cX0_firstOf 62 = .ok (.iload 4, 2) := by decide +kernel
theorem dX0_firstOf_64 : decode cX0_firstOf 64 = .ok (.if_icmp .ne 12, 3) := by decide +kernel
theorem dX0_firstOf_67 : decode cX0_firstOf 67 = .ok (.iload_n 3, 1) := by decide +kernel
theorem dX0_firstOf_68 : decode cX0_firstOf 68 = .ok (.iconst 1, 1) := by decide +kernel
theorem dX0_firstOf_69 : decode cX0_firstOf 69 = .ok (.iload 5, 2) := by decide +kernel
theorem dX0_firstOf_71 : decode cX0_firstOf 71 = .ok (.ishl, 1) := by decide +kernel
theorem dX0_firstOf_72 : decode cX0_firstOf 72 = .ok (.ior, 1) := by decide +kernel
theorem dX0_firstOf_73 : decode cX0_firstOf 73 = .ok (.goto 4, 3) := by decide +kernel
theorem dX0_firstOf_76 : decode cX0_firstOf 76 = .ok (.iload_n 3, 1) := by decide +kernel
theorem dX0_firstOf_77 : decode cX0_firstOf 77 = .ok (.istore_n 3, 1) := by decide +kernel
theorem dX0_firstOf_78 : decode cX0_firstOf 78 = .ok (.iload 4, 2) := by decide +kernel
theorem dX0_firstOf_80 : decode cX0_firstOf 80 = .ok (.iload 6, 2) := by decide +kernel
theorem dX0_firstOf_82 : decode cX0_firstOf 82 = .ok (.invokestatic 82, 3) := by decide +kernel
theorem dX0_firstOf_85 : decode cX0_firstOf 85 = .ok (.istore 4, 2) := by decide +kernel
theorem dX0_firstOf_87 : decode cX0_firstOf 87 = .ok (.iinc 5 1, 3) := by decide +kernel
theorem dX0_firstOf_90 : decode cX0_firstOf 90 = .ok (.goto (-81), 3) := by decide +kernel
theorem dX0_firstOf_93 : decode cX0_firstOf 93 = .ok (.iload_n 3, 1) := by decide +kernel
theorem dX0_firstOf_94 : decode cX0_firstOf 94 = .ok (.ireturn, 1) := by decide +kernel
set_option maxRecDepth 20000 in
theorem ggX0_rulers_X0_umbrellas : GoodIn wsX0_rulers wsX0_umbrellas := goodIn_r _ [5, 6, 7, 32, 33, 34, 35, 36, 37, 38, 39, 40, 41, 42, 43] (by decide +kernel) (by decide +kernel)
set_option maxRecDepth 20000 in
theorem gX0_rulers_X0_umbrellas : GoodIn wsX0_rulers (wsV RX0 86 RX0 yX0_umbrellas wsX0_umbrellas) := goodIn_app (goodIn_of _ (by decide +kernel)) ggX0_rulers_X0_umbrellas
set_option maxRecDepth 20000 in
theorem ggX0_rulers_X0_firstOf : GoodIn wsX0_rulers wsX0_firstOf := goodIn_r _ [11, 12, 13, 14, 15, 16, 17, 18, 19, 20, 21, 22, 23, 24, 4, 25, 26, 27, 28, 29, 30, 31, 32, 33, 34, 35, 36, 37, 38, 39, 40, 41, 42, 43] (by decide +kernel) (by decide +kernel)
set_option maxRecDepth 20000 in
theorem gX0_rulers_X0_firstOf : GoodIn wsX0_rulers (wsV RX0 90 RX0 yX0_firstOf wsX0_firstOf) := goodIn_app (goodIn_of _ (by decide +kernel)) ggX0_rulers_X0_firstOf
theorem dX0_rulers_0 : decode cX0_rulers 0 = .ok (.aload_n 0, 1) := by decide +kernel
theorem dX0_rulers_1 : decode cX0_rulers 1 = .ok (.aload_n 0, 1) := by decide +kernel
theorem dX0_rulers_2 : decode cX0_rulers 2 = .ok (.invokevirtual 86, 3) := by decide +kernel
theorem dX0_rulers_5 : decode cX0_rulers 5 = .ok (.iload_n 1, 1) := by decide +kernel
theorem dX0_rulers_6 : decode cX0_rulers 6 = .ok (.invokevirtual 90, 3) := by decide +kernel
theorem dX0_rulers_9 : decode cX0_rulers 9 = .ok (.ireturn, 1) := by decide +kernel
set_option maxRecDepth 20000 in
theorem ggX0_sprinkled_X4_withBit : GoodIn wsX0_sprinkled wsX4_withBit := goodIn_r _ [4] (by decide +kernel) (by decide +kernel)
set_option maxRecDepth 20000 in
theorem gX0_sprinkled_X4_withBit_n93 : GoodIn wsX0_sprinkled (wsX4_withBit) := ggX0_sprinkled_X4_withBit
set_option maxRecDepth 20000 in
theorem ggX0_sprinkled_X0_firstOf : GoodIn wsX0_sprinkled wsX0_firstOf := goodIn_r _ [9, 10, 1, 11, 12, 13, 14, 15, 16, 3, 17, 18, 19, 20, 8, 21, 22, 23, 24, 25, 26, 27, 28, 29, 30, 31, 32, 33, 34, 35, 36, 37, 38, 39] (by decide +kernel) (by decide +kernel)
set_option maxRecDepth 20000 in
theorem gX0_sprinkled_X0_firstOf : GoodIn wsX0_sprinkled (wsV RX0 90 RX0 yX0_firstOf wsX0_firstOf) := goodIn_app (goodIn_of _ (by decide +kernel)) ggX0_sprinkled_X0_firstOf
theorem dX0_sprinkled_0 : decode cX0_sprinkled 0 = .ok (.iload_n 1, 1) := by decide +kernel
theorem dX0_sprinkled_1 : decode cX0_sprinkled 1 = .ok (.istore_n 3, 1) := by decide +kernel
theorem dX0_sprinkled_2 : decode cX0_sprinkled 2 = .ok (.iconst 0, 1) := by decide +kernel
theorem dX0_sprinkled_3 : decode cX0_sprinkled 3 = .ok (.istore 4, 2) := by decide +kernel
theorem dX0_sprinkled_5 : decode cX0_sprinkled 5 = .ok (.iload 4, 2) := by decide +kernel
theorem dX0_sprinkled_7 : decode cX0_sprinkled 7 = .ok (.bipush 6, 2) := by decide +kernel
theorem dX0_sprinkled_9 : decode cX0_sprinkled 9 = .ok (.if_icmp .ge 32, 3) := by decide +kernel
theorem dX0_sprinkled_12 : decode cX0_sprinkled 12 = .ok (.aload_n 0, 1) := by decide +kernel
theorem dX0_sprinkled_13 : decode cX0_sprinkled 13 = .ok (.getfield 18, 3) := by decide +kernel
theorem dX0_sprinkled_16 : decode cX0_sprinkled 16 = .ok (.iload 4, 2) := by decide +kernel
theorem dX0_sprinkled_18 : decode cX0_sprinkled 18 = .ok (.iaload, 1) := by decide +kernel
theorem dX0_sprinkled_19 : decode cX0_sprinkled 19 = .ok (.iload_n 2, 1) := by decide +kernel
theorem dX0_sprinkled_20 : decode cX0_sprinkled 20 = .ok (.if_icmp .ne 7, 3) := by decide +kernel
theorem dX0_sprinkled_23 : decode cX0_sprinkled 23 = .ok (.iload_n 3, 1) := by decide +kernel
theorem dX0_sprinkled_24 : decode cX0_sprinkled 24 = .ok (.goto 10, 3) := by decide +kernel
theorem dX0_sprinkled_27 : decode cX0_sprinkled 27 = .ok (.iload_n 3, 1) := by decide +kernel
theorem dX0_sprinkled_28 : decode cX0_sprinkled 28 = .ok (.iload 4, 2) := by decide +kernel
theorem dX0_sprinkled_30 : decode cX0_sprinkled 30 = .ok (.iconst 0, 1) := by decide +kernel
theorem dX0_sprinkled_31 : decode cX0_sprinkled 31 = .ok (.invokestatic 93, 3) := by decide +kernel
theorem dX0_sprinkled_34 : decode cX0_sprinkled 34 = .ok (.istore_n 3, 1) := by decide +kernel
theorem dX0_sprinkled_35 : decode cX0_sprinkled 35 = .ok (.iinc 4 1, 3) := by decide +kernel
theorem dX0_sprinkled_38 : decode cX0_sprinkled 38 = .ok (.goto (-33), 3) := by decide +kernel
theorem dX0_sprinkled_41 : decode cX0_sprinkled 41 = .ok (.aload_n 0, 1) := by decide +kernel
theorem dX0_sprinkled_42 : decode cX0_sprinkled 42 = .ok (.iload_n 3, 1) := by decide +kernel
theorem dX0_sprinkled_43 : decode cX0_sprinkled 43 = .ok (.iload_n 2, 1) := by decide +kernel
theorem dX0_sprinkled_44 : decode cX0_sprinkled 44 = .ok (.invokevirtual 90, 3) := by decide +kernel
theorem dX0_sprinkled_47 : decode cX0_sprinkled 47 = .ok (.ireturn, 1) := by decide +kernel
theorem dX0_allWeights_0 : decode cX0_allWeights 0 = .ok (.iconst 0, 1) := by decide +kernel
theorem dX0_allWeights_1 : decode cX0_allWeights 1 = .ok (.istore_n 1, 1) := by decide +kernel
theorem dX0_allWeights_2 : decode cX0_allWeights 2 = .ok (.iconst 0, 1) := by decide +kernel
theorem dX0_allWeights_3 : decode cX0_allWeights 3 = .ok (.istore_n 2, 1) := by decide +kernel
theorem dX0_allWeights_4 : decode cX0_allWeights 4 = .ok (.iload_n 2, 1) := by decide +kernel
theorem dX0_allWeights_5 : decode cX0_allWeights 5 = .ok (.bipush 10, 2) := by decide +kernel
theorem dX0_allWeights_7 : decode cX0_allWeights 7 = .ok (.if_icmp .ge 18, 3) := by decide +kernel
theorem dX0_allWeights_10 : decode cX0_allWeights 10 = .ok (.iload_n 1, 1) := by decide +kernel
theorem dX0_allWeights_11 : decode cX0_allWeights 11 = .ok (.aload_n 0, 1) := by decide +kernel
theorem dX0_allWeights_12 : decode cX0_allWeights 12 = .ok (.getfield 25, 3) := by decide +kernel
theorem dX0_allWeights_15 : decode cX0_allWeights 15 = .ok (.iload_n 2, 1) := by decide +kernel
theorem dX0_allWeights_16 : decode cX0_allWeights 16 = .ok (.iaload, 1) := by decide +kernel
theorem dX0_allWeights_17 : decode cX0_allWeights 17 = .ok (.iadd, 1) := by decide +kernel
theorem dX0_allWeights_18 : decode cX0_allWeights 18 = .ok (.istore_n 1, 1) := by decide +kernel
theorem dX0_allWeights_19 : decode cX0_allWeights 19 = .ok (.iinc 2 1, 3) := by decide +kernel
theorem dX0_allWeights_22 : decode cX0_allWeights 22 = .ok (.goto (-18), 3) := by decide +kernel
theorem dX0_allWeights_25 : decode cX0_allWeights 25 = .ok (.iload_n 1, 1) := by decide +kernel
theorem dX0_allWeights_26 : decode cX0_allWeights 26 = .ok (.ireturn, 1) := by decide +kernel
set_option maxRecDepth 20000 in
theorem ggX0_allShares_X0_allWeights : GoodIn wsX0_allShares wsX0_allWeights := goodIn_r _ [5, 6, 7, 8, 9, 10, 11, 12, 13, 14, 15, 16, 17, 18] (by decide +kernel) (by decide +kernel)
set_option maxRecDepth 20000 in
theorem gX0_allShares_X0_allWeights : GoodIn wsX0_allShares (wsV RX0 97 RX0 yX0_allWeights wsX0_allWeights) := goodIn_app (goodIn_of _ (by decide +kernel)) ggX0_allShares_X0_allWeights
theorem dX0_allShares_0 : decode cX0_allShares 0 = .ok (.aload_n 0, 1) := by decide +kernel
theorem dX0_allShares_1 : decode cX0_allShares 1 = .ok (.invokevirtual 97, 3) := by decide +kernel
theorem dX0_allShares_4 : decode cX0_allShares 4 = .ok (.bipush 60, 2) := by decide +kernel
theorem dX0_allShares_6 : decode cX0_allShares 6 = .ok (.imul, 1) := by decide +kernel
theorem dX0_allShares_7 : decode cX0_allShares 7 = .ok (.ireturn, 1) := by decide +kernel
set_option maxRecDepth 20000 in
theorem ggX0_shareOf_X0_umbrellas : GoodIn wsX0_shareOf wsX0_umbrellas := goodIn_r _ [6, 7, 8, 40, 41, 42, 43, 44, 45, 46, 47, 48, 49, 50, 51] (by decide +kernel) (by decide +kernel)
set_option maxRecDepth 20000 in
theorem gX0_shareOf_X0_umbrellas : GoodIn wsX0_shareOf (wsV RX0 86 RX0 yX0_umbrellas wsX0_umbrellas) := goodIn_app (goodIn_of _ (by decide +kernel)) ggX0_shareOf_X0_umbrellas
set_option maxRecDepth 20000 in
theorem ggX0_shareOf_X0_firstOf : GoodIn wsX0_shareOf wsX0_firstOf := goodIn_r _ [12, 13, 14, 15, 16, 17, 18, 19, 20, 21, 22, 23, 24, 25, 5, 26, 27, 28, 29, 30, 31, 32, 40, 41, 42, 43, 44, 45, 46, 47, 48, 49, 50, 51] (by decide +kernel) (by decide +kernel)
set_option maxRecDepth 20000 in
theorem gX0_shareOf_X0_firstOf : GoodIn wsX0_shareOf (wsV RX0 90 RX0 yX0_firstOf wsX0_firstOf) := goodIn_app (goodIn_of _ (by decide +kernel)) ggX0_shareOf_X0_firstOf
set_option maxRecDepth 20000 in
theorem ggX0_shareOf_J6_bitCount_0f7a4 : GoodIn wsX0_shareOf wsJ6_bitCount_0f7a4 := goodIn_r _ [36, 37, 38, 39] (by decide +kernel) (by decide +kernel)
set_option maxRecDepth 20000 in
theorem gX0_shareOf_J6_bitCount_0f7a4 : GoodIn wsX0_shareOf (va_wsS RX0 100 yJ6_bitCount_0f7a4 wsJ6_bitCount_0f7a4) := goodIn_app (goodIn_of _ (by decide +kernel)) ggX0_shareOf_J6_bitCount_0f7a4
theorem dX0_shareOf_0 : decode cX0_shareOf 0 = .ok (.iconst 0, 1) := by decide +kernel
theorem dX0_shareOf_1 : decode cX0_shareOf 1 = .ok (.istore_n 2, 1) := by decide +kernel
theorem dX0_shareOf_2 : decode cX0_shareOf 2 = .ok (.iconst 0, 1) := by decide +kernel
theorem dX0_shareOf_3 : decode cX0_shareOf 3 = .ok (.istore_n 3, 1) := by decide +kernel
theorem dX0_shareOf_4 : decode cX0_shareOf 4 = .ok (.iload_n 3, 1) := by decide +kernel
theorem dX0_shareOf_5 : decode cX0_shareOf 5 = .ok (.bipush 10, 2) := by decide +kernel
theorem dX0_shareOf_7 : decode cX0_shareOf 7 = .ok (.if_icmp .ge 55, 3) := by decide +kernel
theorem dX0_shareOf_10 : decode cX0_shareOf 10 = .ok (.aload_n 0, 1) := by decide +kernel
theorem dX0_shareOf_11 : decode cX0_shareOf 11 = .ok (.aload_n 0, 1) := by decide +kernel
theorem dX0_shareOf_12 : decode cX0_shareOf 12 = .ok (.invokevirtual 86, 3) := by decide +kernel
theorem dX0_shareOf_15 : decode cX0_shareOf 15 = .ok (.iload_n 3, 1) := by decide +kernel
theorem dX0_shareOf_16 : decode cX0_shareOf 16 = .ok (.invokevirtual 90, 3) := by decide +kernel
theorem dX0_shareOf_19 : decode cX0_shareOf 19 = .ok (.istore 4, 2) := by decide +kernel
theorem dX0_shareOf_21 : decode cX0_shareOf 21 = .ok (.iload 4, 2) := by decide +kernel
theorem dX0_shareOf_23 : decode cX0_shareOf 23 = .ok (.invokestatic 100, 3) := by decide +kernel
theorem dX0_shareOf_26 : decode cX0_shareOf 26 = .ok (.istore 5, 2) := by decide +kernel
theorem dX0_shareOf_28 : decode cX0_shareOf 28 = .ok (.iload 5, 2) := by decide +kernel
theorem dX0_shareOf_30 : decode cX0_shareOf 30 = .ok (.ifCond .le 26, 3) := by decide +kernel
theorem dX0_shareOf_33 : decode cX0_shareOf 33 = .ok (.iload_n 2, 1) := by decide +kernel
theorem dX0_shareOf_34 : decode cX0_shareOf 34 = .ok (.aload_n 0, 1) := by decide +kernel
theorem dX0_shareOf_35 : decode cX0_shareOf 35 = .ok (.getfield 25, 3) := by decide +kernel
theorem dX0_shareOf_38 : decode cX0_shareOf 38 = .ok (.iload_n 3, 1) := by decide +kernel
theorem dX0_shareOf_39 : decode cX0_shareOf 39 = .ok (.iaload, 1) := by decide +kernel
theorem dX0_shareOf_40 : decode cX0_shareOf 40 = .ok (.bipush 60, 2) := by decide +kernel
theorem dX0_shareOf_42 : decode cX0_shareOf 42 = .ok (.iload 5, 2) := by decide +kernel
theorem dX0_shareOf_44 : decode cX0_shareOf 44 = .ok (.idiv, 1) := by decide +kernel
theorem dX0_shareOf_45 : decode cX0_shareOf 45 = .ok (.imul, 1) := by decide +kernel
theorem dX0_shareOf_46 : decode cX0_shareOf 46 = .ok (.iload 4, 2) := by decide +kernel
theorem dX0_shareOf_48 : decode cX0_shareOf 48 = .ok (.iload_n 1, 1) := by decide +kernel
theorem dX0_shareOf_49 : decode cX0_shareOf 49 = .ok (.iand, 1) := by decide +kernel
theorem dX0_shareOf_50 : decode cX0_shareOf 50 = .ok (.invokestatic 100, 3) := by decide +kernel
theorem dX0_shareOf_53 : decode cX0_shareOf 53 = .ok (.imul, 1) := by decide +kernel
theorem dX0_shareOf_54 : decode cX0_shareOf 54 = .ok (.iadd, 1) := by decide +kernel
theorem dX0_shareOf_55 : decode cX0_shareOf 55 = .ok (.istore_n 2, 1) := by decide +kernel
theorem dX0_shareOf_56 : decode cX0_shareOf 56 = .ok (.iinc 3 1, 3) := by decide +kernel
theorem dX0_shareOf_59 : decode cX0_shareOf 59 = .ok (.goto (-55), 3) := by decide +kernel
theorem dX0_shareOf_62 : decode cX0_shareOf 62 = .ok (.iload_n 2, 1) := by decide +kernel
theorem dX0_shareOf_63 : decode cX0_shareOf 63 = .ok (.ireturn, 1) := by decide +kernel
set_option maxRecDepth 20000 in
theorem ggX0_addSight_X4_within : GoodIn wsX0_addSight wsX4_within := goodIn_r _ [6] (by decide +kernel) (by decide +kernel)
set_option maxRecDepth 20000 in
theorem gX0_addSight_X4_within_n61 : GoodIn wsX0_addSight (wsX4_within) := ggX0_addSight_X4_within
theorem dX0_addSight_0 : decode cX0_addSight 0 = .ok (.aload_n 0, 1) := by decide +kernel
theorem dX0_addSight_1 : decode cX0_addSight 1 = .ok (.getfield 52, 3) := by decide +kernel
theorem dX0_addSight_4 : decode cX0_addSight 4 = .ok (.iconst 0, 1) := by decide +kernel
theorem dX0_addSight_5 : decode cX0_addSight 5 = .ok (.iconst 5, 1) := by decide +kernel
theorem dX0_addSight_6 : decode cX0_addSight 6 = .ok (.invokestatic 61, 3) := by decide +kernel
theorem dX0_addSight_9 : decode cX0_addSight 9 = .ok (.ifCond .ne 5, 3) := by decide +kernel
theorem dX0_addSight_12 : decode cX0_addSight 12 = .ok (.iconst 0, 1) := by decide +kernel
theorem dX0_addSight_13 : decode cX0_addSight 13 = .ok (.ireturn, 1) := by decide +kernel
theorem dX0_addSight_14 : decode cX0_addSight 14 = .ok (.aload_n 0, 1) := by decide +kernel
theorem dX0_addSight_15 : decode cX0_addSight 15 = .ok (.getfield 28, 3) := by decide +kernel
theorem dX0_addSight_18 : decode cX0_addSight 18 = .ok (.aload_n 0, 1) := by decide +kernel
theorem dX0_addSight_19 : decode cX0_addSight 19 = .ok (.getfield 52, 3) := by decide +kernel
theorem dX0_addSight_22 : decode cX0_addSight 22 = .ok (.iload_n 1, 1) := by decide +kernel
theorem dX0_addSight_23 : decode cX0_addSight 23 = .ok (.iastore, 1) := by decide +kernel
theorem dX0_addSight_24 : decode cX0_addSight 24 = .ok (.aload_n 0, 1) := by decide +kernel
theorem dX0_addSight_25 : decode cX0_addSight 25 = .ok (.getfield 31, 3) := by decide +kernel
theorem dX0_addSight_28 : decode cX0_addSight 28 = .ok (.aload_n 0, 1) := by decide +kernel
theorem dX0_addSight_29 : decode cX0_addSight 29 = .ok (.getfield 52, 3) := by decide +kernel
theorem dX0_addSight_32 : decode cX0_addSight 32 = .ok (.iload_n 2, 1) := by decide +kernel
theorem dX0_addSight_33 : decode cX0_addSight 33 = .ok (.iastore, 1) := by decide +kernel
theorem dX0_addSight_34 : decode cX0_addSight 34 = .ok (.aload_n 0, 1) := by decide +kernel
theorem dX0_addSight_35 : decode cX0_addSight 35 = .ok (.dup, 1) := by decide +kernel
theorem dX0_addSight_36 : decode cX0_addSight 36 = .ok (.getfield 52, 3) := by decide +kernel
theorem dX0_addSight_39 : decode cX0_addSight 39 = .ok (.iconst 1, 1) := by decide +kernel
theorem dX0_addSight_40 : decode cX0_addSight 40 = .ok (.iadd, 1) := by decide +kernel
theorem dX0_addSight_41 : decode cX0_addSight 41 = .ok (.putfield 52, 3) := by decide +kernel
theorem dX0_addSight_44 : decode cX0_addSight 44 = .ok (.iconst 1, 1) := by decide +kernel
theorem dX0_addSight_45 : decode cX0_addSight 45 = .ok (.ireturn, 1) := by decide +kernel
set_option maxRecDepth 20000 in
theorem ggX0_fitsSights_X4_hasBit : GoodIn wsX0_fitsSights wsX4_hasBit := goodIn_r _ [6] (by decide +kernel) (by decide +kernel)
set_option maxRecDepth 20000 in
theorem gX0_fitsSights_X4_hasBit_n65 : GoodIn wsX0_fitsSights (wsX4_hasBit) := ggX0_fitsSights_X4_hasBit
theorem dX0_fitsSights_0 : decode cX0_fitsSights 0 = .ok (.iconst 0, 1) := by decide +kernel
theorem dX0_fitsSights_1 : decode cX0_fitsSights 1 = .ok (.istore_n 2, 1) := by decide +kernel
theorem dX0_fitsSights_2 : decode cX0_fitsSights 2 = .ok (.iload_n 2, 1) := by decide +kernel
theorem dX0_fitsSights_3 : decode cX0_fitsSights 3 = .ok (.aload_n 0, 1) := by decide +kernel
theorem dX0_fitsSights_4 : decode cX0_fitsSights 4 = .ok (.getfield 52, 3) := by decide +kernel
theorem dX0_fitsSights_7 : decode cX0_fitsSights 7 = .ok (.if_icmp .ge 81, 3) := by decide +kernel
theorem dX0_fitsSights_10 : decode cX0_fitsSights 10 = .ok (.iload_n 2, 1) := by decide +kernel
theorem dX0_fitsSights_11 : decode cX0_fitsSights 11 = .ok (.bipush 6, 2) := by decide +kernel
theorem dX0_fitsSights_13 : decode cX0_fitsSights 13 = .ok (.if_icmp .ge 75, 3) := by decide +kernel
theorem dX0_fitsSights_16 : decode cX0_fitsSights 16 = .ok (.aload_n 0, 1) := by decide +kernel
theorem dX0_fitsSights_17 : decode cX0_fitsSights 17 = .ok (.getfield 31, 3) := by decide +kernel
theorem dX0_fitsSights_20 : decode cX0_fitsSights 20 = .ok (.iload_n 2, 1) := by decide +kernel
theorem dX0_fitsSights_21 : decode cX0_fitsSights 21 = .ok (.iaload, 1) := by decide +kernel
theorem dX0_fitsSights_22 : decode cX0_fitsSights 22 = .ok (.istore_n 3, 1) := by decide +kernel
theorem dX0_fitsSights_23 : decode cX0_fitsSights 23 = .ok (.aload_n 0, 1) := by decide +kernel
theorem dX0_fitsSights_24 : decode cX0_fitsSights 24 = .ok (.getfield 28, 3) := by decide +kernel
theorem dX0_fitsSights_27 : decode cX0_fitsSights 27 = .ok (.iload_n 2, 1) := by decide +kernel
theorem dX0_fitsSights_28 : decode cX0_fitsSights 28 = .ok (.iaload, 1) := by decide +kernel
theorem dX0_fitsSights_29 : decode cX0_fitsSights 29 = .ok (.ifCond .ne 16, 3) := by decide +kernel
theorem dX0_fitsSights_32 : decode cX0_fitsSights 32 = .ok (.iload_n 1, 1) := by decide +kernel
theorem dX0_fitsSights_33 : decode cX0_fitsSights 33 = .ok (.iload_n 3, 1) := by decide +kernel
theorem dX0_fitsSights_34 : decode cX0_fitsSights 34 = .ok (.if_icmp .ne 7, 3) := by decide +kernel
theorem dX0_fitsSights_37 : decode cX0_fitsSights 37 = .ok (.iconst 1, 1) := by decide +kernel
theorem dX0_fitsSights_38 : decode cX0_fitsSights 38 = .ok (.goto 35, 3) := by decide +kernel
theorem dX0_fitsSights_41 : decode cX0_fitsSights 41 = .ok (.iconst 0, 1) := by decide +kernel
theorem dX0_fitsSights_42 : decode cX0_fitsSights 42 = .ok (.goto 31, 3) := by decide +kernel
theorem dX0_fitsSights_45 : decode cX0_fitsSights 45 = .ok (.iload_n 1, 1) := by decide +kernel
theorem dX0_fitsSights_46 : decode cX0_fitsSights 46 = .ok (.iload_n 3, 1) := by decide +kernel
theorem dX0_fitsSights_47 : decode cX0_fitsSights 47 = .ok (.invokestatic 65, 3) := by decide +kernel
theorem dX0_fitsSights_50 : decode cX0_fitsSights 50 = .ok (.aload_n 0, 1) := by decide +kernel
theorem dX0_fitsSights_51 : decode cX0_fitsSights 51 = .ok (.getfield 28, 3) := by decide +kernel
theorem dX0_fitsSights_54 : decode cX0_fitsSights 54 = .ok (.iload_n 2, 1) := by decide +kernel
theorem dX0_fitsSights_55 : decode cX0_fitsSights 55 = .ok (.iaload, 1) := by decide +kernel
theorem dX0_fitsSights_56 : decode cX0_fitsSights 56 = .ok (.iconst 1, 1) := by decide +kernel
theorem dX0_fitsSights_57 : decode cX0_fitsSights 57 = .ok (.if_icmp .ne 7, 3) := by decide +kernel
theorem dX0_fitsSights_60 : decode cX0_fitsSights 60 = .ok (.iconst 1, 1) := by decide +kernel
theorem dX0_fitsSights_61 : decode cX0_fitsSights 61 = .ok (.goto 4, 3) := by decide +kernel
theorem dX0_fitsSights_64 : decode cX0_fitsSights 64 = .ok (.iconst 0, 1) := by decide +kernel
theorem dX0_fitsSights_65 : decode cX0_fitsSights 65 = .ok (.if_icmp .ne 7, 3) := by decide +kernel
theorem dX0_fitsSights_68 : decode cX0_fitsSights 68 = .ok (.iconst 1, 1) := by decide +kernel
theorem dX0_fitsSights_69 : decode cX0_fitsSights 69 = .ok (.goto 4, 3) := by decide +kernel
theorem dX0_fitsSights_72 : decode cX0_fitsSights 72 = .ok (.iconst 0, 1) := by decide +kernel
theorem dX0_fitsSights_73 : decode cX0_fitsSights 73 = .ok (.istore 4, 2) := by decide +kernel
theorem dX0_fitsSights_75 : decode cX0_fitsSights 75 = .ok (.iload 4, 2) := by decide +kernel
theorem dX0_fitsSights_77 : decode cX0_fitsSights 77 = .ok (.ifCond .ne 5, 3) := by decide +kernel
theorem dX0_fitsSights_80 : decode cX0_fitsSights 80 = .ok (.iconst 0, 1) := by decide +kernel
theorem dX0_fitsSights_81 : decode cX0_fitsSights 81 = .ok (.ireturn, 1) := by decide +kernel
theorem dX0_fitsSights_82 : decode cX0_fitsSights 82 = .ok (.iinc 2 1, 3) := by decide +kernel
theorem dX0_fitsSights_85 : decode cX0_fitsSights 85 = .ok (.goto (-83), 3) := by decide +kernel
theorem dX0_fitsSights_88 : decode cX0_fitsSights 88 = .ok (.iconst 1, 1) := by decide +kernel
theorem dX0_fitsSights_89 : decode cX0_fitsSights 89 = .ok (.ireturn, 1) := by decide +kernel
theorem dX1_init_0 : decode cX1_init 0 = .ok (.aload_n 0, 1) := by decide +kernel
theorem dX1_init_1 : decode cX1_init 1 = .ok (.invokespecial 3, 3) := by decide +kernel
theorem dX1_init_4 : decode cX1_init 4 = .ok (.aload_n 0, 1) := by decide +kernel
theorem dX1_init_5 : decode cX1_init 5 = .ok (.bipush 9, 2) := by decide +kernel
theorem dX1_init_7 : decode cX1_init 7 = .ok (.newarray .int, 2) := by decide +kernel
theorem dX1_init_9 : decode cX1_init 9 = .ok (.putfield 9, 3) := by decide +kernel
theorem dX1_init_12 : decode cX1_init 12 = .ok (.aload_n 0, 1) := by decide +kernel
theorem dX1_init_13 : decode cX1_init 13 = .ok (.aload_n 1, 1) := by decide +kernel
theorem dX1_init_14 : decode cX1_init 14 = .ok (.putfield 15, 3) := by decide +kernel
theorem dX1_init_17 : decode cX1_init 17 = .ok (.return_, 1) := by decide +kernel
set_option maxRecDepth 20000 in
theorem ggX1_begin_J7_fill_53178 : GoodIn wsX1_begin wsJ7_fill_53178 := goodIn_r _ [8] (by decide +kernel) (by decide +kernel)
set_option maxRecDepth 20000 in
theorem gX1_begin_J7_fill_53178 : GoodIn wsX1_begin (va_wsS RX1 29 yJ7_fill_53178 wsJ7_fill_53178) := goodIn_app (goodIn_of _ (by decide +kernel)) ggX1_begin_J7_fill_53178
theorem dX1_begin_0 : decode cX1_begin 0 = .ok (.aload_n 0, 1) := by decide +kernel
theorem dX1_begin_1 : decode cX1_begin 1 = .ok (.iconst 0, 1) := by decide +kernel
theorem dX1_begin_2 : decode cX1_begin 2 = .ok (.putfield 19, 3) := by decide +kernel
theorem dX1_begin_5 : decode cX1_begin 5 = .ok (.aload_n 0, 1) := by decide +kernel
theorem dX1_begin_6 : decode cX1_begin 6 = .ok (.iconst 0, 1) := by decide +kernel
theorem dX1_begin_7 : decode cX1_begin 7 = .ok (.putfield 23, 3) := by decide +kernel
theorem dX1_begin_10 : decode cX1_begin 10 = .ok (.aload_n 0, 1) := by decide +kernel
theorem dX1_begin_11 : decode cX1_begin 11 = .ok (.iconst 0, 1) := by decide +kernel
theorem dX1_begin_12 : decode cX1_begin 12 = .ok (.putfield 26, 3) := by decide +kernel
theorem dX1_begin_15 : decode cX1_begin 15 = .ok (.aload_n 0, 1) := by decide +kernel
theorem dX1_begin_16 : decode cX1_begin 16 = .ok (.getfield 9, 3) := by decide +kernel
theorem dX1_begin_19 : decode cX1_begin 19 = .ok (.iconst 0, 1) := by decide +kernel
theorem dX1_begin_20 : decode cX1_begin 20 = .ok (.invokestatic 29, 3) := by decide +kernel
theorem dX1_begin_23 : decode cX1_begin 23 = .ok (.return_, 1) := by decide +kernel
set_option maxRecDepth 20000 in
theorem ggX1_play_X1_begin : GoodIn wsX1_play wsX1_begin := goodIn_r _ [6, 7, 8, 9, 10, 11, 12, 13, 14, 96, 97, 98, 99, 100] (by decide +kernel) (by decide +kernel)
set_option maxRecDepth 20000 in
theorem gX1_play_X1_begin : GoodIn wsX1_play (wsV RX1 35 RX1 yX1_begin wsX1_begin) := goodIn_app (goodIn_of _ (by decide +kernel)) ggX1_play_X1_begin
set_option maxRecDepth 20000 in
theorem ggX1_play_X2_sign : GoodIn wsX1_play wsX2_sign := goodIn_r _ [19, 20, 21, 22, 23, 94, 95] (by decide +kernel) (by decide +kernel)
set_option maxRecDepth 20000 in
theorem gX1_play_X2_sign : GoodIn wsX1_play (wsV RX1 43 RX2 yX2_sign wsX2_sign) := goodIn_app (goodIn_of _ (by decide +kernel)) ggX1_play_X2_sign
set_option maxRecDepth 20000 in
theorem ggX1_play_X2_takesAnother : GoodIn wsX1_play wsX2_takesAnother := goodIn_r _ [26] (by decide +kernel) (by decide +kernel)
set_option maxRecDepth 20000 in
theorem gX1_play_X2_takesAnother : GoodIn wsX1_play (va_wsS RX1 47 yX2_takesAnother wsX2_takesAnother) := goodIn_app (goodIn_of _ (by decide +kernel)) ggX1_play_X2_takesAnother
set_option maxRecDepth 20000 in
theorem ggX1_play_X1_happen : GoodIn wsX1_play wsX1_happen := goodIn_r _ [30, 31, 32, 33, 34, 5, 35, 8, 36, 37, 38, 39, 40, 41, 42, 43, 44, 45, 46, 47, 48, 22, 49, 50, 51, 52, 53, 54, 55, 56, 57, 58, 59, 60, 61, 62, 63, 64, 65, 66, 67, 68, 69, 70, 71, 72, 73, 74, 75, 76, 77, 78, 79, 7, 9, 80, 81, 82, 83, 10, 84, 85, 86, 87, 88, 89, 90, 91, 92, 93, 96, 97, 98, 99, 100, 101, 102, 103, 104, 105, 106, 107, 108, 109, 110, 111, 112] (by decide +kernel) (by decide +kernel)
set_option maxRecDepth 20000 in
theorem gX1_play_X1_happen : GoodIn wsX1_play (wsV RX1 51 RX1 yX1_happen wsX1_happen) := goodIn_app (goodIn_of _ (by decide +kernel)) ggX1_play_X1_happen
theorem dX1_play_0 : decode cX1_play 0 = .ok (.aload_n 0, 1) := by decide +kernel
theorem dX1_play_1 : decode cX1_play 1 = .ok (.invokevirtual 35, 3) := by decide +kernel
theorem dX1_play_4 : decode cX1_play 4 = .ok (.iconst 0, 1) := by decide +kernel
theorem dX1_play_5 : decode cX1_play 5 = .ok (.istore_n 3, 1) := by decide +kernel
theorem dX1_play_6 : decode cX1_play 6 = .ok (.iconst 0, 1) := by decide +kernel
theorem dX1_play_7 : decode cX1_play 7 = .ok (.istore 4, 2) := by decide +kernel
theorem dX1_play_9 : decode cX1_play 9 = .ok (.iconst 0, 1) := by decide +kernel
theorem dX1_play_10 : decode cX1_play 10 = .ok (.istore 5, 2) := by decide +kernel
theorem dX1_play_12 : decode cX1_play 12 = .ok (.iload 5, 2) := by decide +kernel
theorem dX1_play_14 : decode cX1_play 14 = .ok (.aload_n 1, 1) := by decide +kernel
theorem dX1_play_15 : decode cX1_play 15 = .ok (.getfield 38, 3) := by decide +kernel
theorem dX1_play_18 : decode cX1_play 18 = .ok (.if_icmp .ge 49, 3) := by decide +kernel
theorem dX1_play_21 : decode cX1_play 21 = .ok (.iload 4, 2) := by decide +kernel
theorem dX1_play_23 : decode cX1_play 23 = .ok (.iload_n 2, 1) := by decide +kernel
theorem dX1_play_24 : decode cX1_play 24 = .ok (.if_icmp .ge 43, 3) := by decide +kernel
theorem dX1_play_27 : decode cX1_play 27 = .ok (.aload_n 1, 1) := by decide +kernel
theorem dX1_play_28 : decode cX1_play 28 = .ok (.iload 5, 2) := by decide +kernel
theorem dX1_play_30 : decode cX1_play 30 = .ok (.invokevirtual 43, 3) := by decide +kernel
theorem dX1_play_33 : decode cX1_play 33 = .ok (.istore 6, 2) := by decide +kernel
theorem dX1_play_35 : decode cX1_play 35 = .ok (.iload 6, 2) := by decide +kernel
theorem dX1_play_37 : decode cX1_play 37 = .ok (.invokestatic 47, 3) := by decide +kernel
theorem dX1_play_40 : decode cX1_play 40 = .ok (.ifCond .eq 9, 3) := by decide +kernel
theorem dX1_play_43 : decode cX1_play 43 = .ok (.iload 6, 2) := by decide +kernel
theorem dX1_play_45 : decode cX1_play 45 = .ok (.istore_n 3, 1) := by decide +kernel
theorem dX1_play_46 : decode cX1_play 46 = .ok (.goto 15, 3) := by decide +kernel
theorem dX1_play_49 : decode cX1_play 49 = .ok (.aload_n 0, 1) := by decide +kernel
theorem dX1_play_50 : decode cX1_play 50 = .ok (.iload_n 3, 1) := by decide +kernel
theorem dX1_play_51 : decode cX1_play 51 = .ok (.iload 6, 2) := by decide +kernel
theorem dX1_play_53 : decode cX1_play 53 = .ok (.invokevirtual 51, 3) := by decide +kernel
theorem dX1_play_56 : decode cX1_play 56 = .ok (.iconst 0, 1) := by decide +kernel
theorem dX1_play_57 : decode cX1_play 57 = .ok (.istore_n 3, 1) := by decide +kernel
theorem dX1_play_58 : decode cX1_play 58 = .ok (.iinc 4 1, 3) := by decide +kernel
theorem dX1_play_61 : decode cX1_play 61 = .ok (.iinc 5 1, 3) := by decide +kernel
theorem dX1_play_64 : decode cX1_play 64 = .ok (.goto (-52), 3) := by decide +kernel
theorem dX1_play_67 : decode cX1_play 67 = .ok (.return_, 1) := by decide +kernel
set_option maxRecDepth 20000 in
theorem ggX1_happen_X1_umbrellas : GoodIn wsX1_happen wsX1_umbrellas := goodIn_r _ [6, 1, 7, 8, 9, 10, 11, 12, 13, 14, 70, 71, 72, 73, 74, 75, 76, 77, 78, 79, 80, 81, 82, 83, 84, 85, 86] (by decide +kernel) (by decide +kernel)
set_option maxRecDepth 20000 in
theorem gX1_happen_X1_umbrellas : GoodIn wsX1_happen (wsV RX1 55 RX1 yX1_umbrellas wsX1_umbrellas) := goodIn_app (goodIn_of _ (by decide +kernel)) ggX1_happen_X1_umbrellas
set_option maxRecDepth 20000 in
theorem ggX1_happen_X0_sprinkled : GoodIn wsX1_happen wsX0_sprinkled := goodIn_r _ [18, 19, 20, 21, 22, 23, 24, 25, 11, 26, 27, 28, 29, 30, 31, 32, 33, 34, 35, 36, 37, 38, 39, 40, 41, 42, 43, 44, 75, 76, 77, 78, 79, 80, 81, 82, 83, 84, 85, 86] (by decide +kernel) (by decide +kernel)
set_option maxRecDepth 20000 in
theorem gX1_happen_X0_sprinkled : GoodIn wsX1_happen (wsV RX1 59 RX0 yX0_sprinkled wsX0_sprinkled) := goodIn_app (goodIn_of _ (by decide +kernel)) ggX1_happen_X0_sprinkled
set_option maxRecDepth 20000 in
theorem ggX1_happen_X1_opened : GoodIn wsX1_happen wsX1_opened := goodIn_r _ [48, 49, 50, 51, 5, 52, 53, 54, 70, 71, 72, 73, 74] (by decide +kernel) (by decide +kernel)
set_option maxRecDepth 20000 in
theorem gX1_happen_X1_opened : GoodIn wsX1_happen (wsV RX1 65 RX1 yX1_opened wsX1_opened) := goodIn_app (goodIn_of _ (by decide +kernel)) ggX1_happen_X1_opened
set_option maxRecDepth 20000 in
theorem ggX1_happen_X1_become : GoodIn wsX1_happen wsX1_become := goodIn_r _ [52, 53, 54, 70, 71, 72, 73, 74] (by decide +kernel) (by decide +kernel)
set_option maxRecDepth 20000 in
theorem gX1_happen_X1_become : GoodIn wsX1_happen (wsV RX1 69 RX1 yX1_become wsX1_become) := goodIn_app (goodIn_of _ (by decide +kernel)) ggX1_happen_X1_become
set_option maxRecDepth 20000 in
theorem ggX1_happen_X1_pass : GoodIn wsX1_happen wsX1_pass := goodIn_r _ [58, 59, 53, 1, 60, 33, 21, 34, 70, 71, 72, 73, 74, 75, 76, 77, 78, 79, 80, 81, 82, 83, 84, 85, 86] (by decide +kernel) (by decide +kernel)
set_option maxRecDepth 20000 in
theorem gX1_happen_X1_pass : GoodIn wsX1_happen (wsV RX1 72 RX1 yX1_pass wsX1_pass) := goodIn_app (goodIn_of _ (by decide +kernel)) ggX1_happen_X1_pass
set_option maxRecDepth 20000 in
theorem ggX1_happen_X1_breakUmbrella : GoodIn wsX1_happen wsX1_breakUmbrella := goodIn_r _ [64, 7, 53, 20, 21, 22, 49, 50, 51, 5, 52, 54, 70, 71, 72, 73, 74] (by decide +kernel) (by decide +kernel)
set_option maxRecDepth 20000 in
theorem gX1_happen_X1_breakUmbrella : GoodIn wsX1_happen (wsV RX1 75 RX1 yX1_breakUmbrella wsX1_breakUmbrella) := goodIn_app (goodIn_of _ (by decide +kernel)) ggX1_happen_X1_breakUmbrella
set_option maxRecDepth 20000 in
theorem ggX1_happen_X1_rain : GoodIn wsX1_happen wsX1_rain := goodIn_r _ [68, 1, 2, 3, 4, 5, 6, 7, 8, 9, 10, 11, 12, 13, 14, 69, 24, 25, 26, 27, 19, 28, 29, 30, 31, 32, 33, 21, 34, 35, 36, 37, 38, 39, 40, 41, 42, 43, 44, 45, 46, 47, 48, 49, 50, 51, 52, 53, 54, 70, 71, 72, 73, 74, 75, 76, 77, 78, 79, 80, 81, 82, 83, 84, 85, 86] (by decide +kernel) (by decide +kernel)
set_option maxRecDepth 20000 in
theorem gX1_happen_X1_rain : GoodIn wsX1_happen (wsV RX1 78 RX1 yX1_rain wsX1_rain) := goodIn_app (goodIn_of _ (by decide +kernel)) ggX1_happen_X1_rain
theorem dX1_happen_0 : decode cX1_happen 0 = .ok (.iload_n 1, 1) := by decide +kernel
theorem dX1_happen_1 : decode cX1_happen 1 = .ok (.bipush 33, 2) := by decide +kernel
theorem dX1_happen_3 : decode cX1_happen 3 = .ok (.if_icmp .ne 25, 3) := by decide +kernel
theorem dX1_happen_6 : decode cX1_happen 6 = .ok (.aload_n 0, 1) := by decide +kernel
theorem dX1_happen_7 : decode cX1_happen 7 = .ok (.aload_n 0, 1) := by decide +kernel
theorem dX1_happen_8 : decode cX1_happen 8 = .ok (.getfield 15, 3) := by decide +kernel
theorem dX1_happen_11 : decode cX1_happen 11 = .ok (.aload_n 0, 1) := by decide +kernel
theorem dX1_happen_12 : decode cX1_happen 12 = .ok (.invokevirtual 55, 3) := by decide +kernel
theorem dX1_happen_15 : decode cX1_happen 15 = .ok (.iload_n 2, 1) := by decide +kernel
theorem dX1_happen_16 : decode cX1_happen 16 = .ok (.bipush 48, 2) := by decide +kernel
theorem dX1_happen_18 : decode cX1_happen 18 = .ok (.isub, 1) := by decide +kernel
theorem dX1_happen_19 : decode cX1_happen 19 = .ok (.invokevirtual 59, 3) := by decide +kernel
theorem dX1_happen_22 : decode cX1_happen 22 = .ok (.invokevirtual 65, 3) := by decide +kernel
theorem dX1_happen_25 : decode cX1_happen 25 = .ok (.goto 64, 3) := by decide +kernel
theorem dX1_happen_28 : decode cX1_happen 28 = .ok (.iload_n 1, 1) := by decide +kernel
theorem dX1_happen_29 : decode cX1_happen 29 = .ok (.bipush 45, 2) := by decide +kernel
theorem dX1_happen_31 : decode cX1_happen 31 = .ok (.if_icmp .ne 19, 3) := by decide +kernel
theorem dX1_happen_34 : decode cX1_happen 34 = .ok (.aload_n 0, 1) := by decide +kernel
theorem dX1_happen_35 : decode cX1_happen 35 = .ok (.iconst 0, 1) := by decide +kernel
theorem dX1_happen_36 : decode cX1_happen 36 = .ok (.invokevirtual 69, 3) := by decide +kernel
theorem dX1_happen_39 : decode cX1_happen 39 = .ok (.aload_n 0, 1) := by decide +kernel
theorem dX1_happen_40 : decode cX1_happen 40 = .ok (.iload_n 2, 1) := by decide +kernel
theorem dX1_happen_41 : decode cX1_happen 41 = .ok (.bipush 48, 2) := by decide +kernel
theorem dX1_happen_43 : decode cX1_happen 43 = .ok (.isub, 1) := by decide +kernel
theorem dX1_happen_44 : decode cX1_happen 44 = .ok (.invokevirtual 72, 3) := by decide +kernel
theorem dX1_happen_47 : decode cX1_happen 47 = .ok (.goto 42, 3) := by decide +kernel
theorem dX1_happen_50 : decode cX1_happen 50 = .ok (.iload_n 1, 1) := by decide +kernel
theorem dX1_happen_51 : decode cX1_happen 51 = .ok (.bipush 126, 2) := by decide +kernel
theorem dX1_happen_53 : decode cX1_happen 53 = .ok (.if_icmp .ne 14, 3) := by decide +kernel
theorem dX1_happen_56 : decode cX1_happen 56 = .ok (.aload_n 0, 1) := by decide +kernel
theorem dX1_happen_57 : decode cX1_happen 57 = .ok (.iload_n 2, 1) := by decide +kernel
theorem dX1_happen_58 : decode cX1_happen 58 = .ok (.bipush 65, 2) := by decide +kernel
theorem dX1_happen_60 : decode cX1_happen 60 = .ok (.isub, 1) := by decide +kernel
theorem dX1_happen_61 : decode cX1_happen 61 = .ok (.invokevirtual 75, 3) := by decide +kernel
theorem dX1_happen_64 : decode cX1_happen 64 = .ok (.goto 25, 3) := by decide +kernel
theorem dX1_happen_67 : decode cX1_happen 67 = .ok (.iload_n 2, 1) := by decide +kernel
theorem dX1_happen_68 : decode cX1_happen 68 = .ok (.bipush 46, 2) := by decide +kernel
theorem dX1_happen_70 : decode cX1_happen 70 = .ok (.if_icmp .ne 11, 3) := by decide +kernel
theorem dX1_happen_73 : decode cX1_happen 73 = .ok (.aload_n 0, 1) := by decide +kernel
theorem dX1_happen_74 : decode cX1_happen 74 = .ok (.iconst 1, 1) := by decide +kernel
theorem dX1_happen_75 : decode cX1_happen 75 = .ok (.invokevirtual 72, 3) := by decide +kernel
theorem dX1_happen_78 : decode cX1_happen 78 = .ok (.goto 11, 3) := by decide +kernel
theorem dX1_happen_81 : decode cX1_happen 81 = .ok (.aload_n 0, 1) := by decide +kernel
theorem dX1_happen_82 : decode cX1_happen 82 = .ok (.iload_n 2, 1) := by decide +kernel
theorem dX1_happen_83 : decode cX1_happen 83 = .ok (.bipush 48, 2) := by decide +kernel
theorem dX1_happen_85 : decode cX1_happen 85 = .ok (.isub, 1) := by decide +kernel
theorem dX1_happen_86 : decode cX1_happen 86 = .ok (.invokevirtual 78, 3) := by decide +kernel
theorem dX1_happen_89 : decode cX1_happen 89 = .ok (.return_, 1) := by decide +kernel
set_option maxRecDepth 20000 in
theorem ggX1_umbrellas_X0_umbrellas : GoodIn wsX1_umbrellas wsX0_umbrellas := goodIn_r _ [7, 8, 9, 15, 16, 17, 18, 19, 20, 21, 22, 23, 24, 25, 26] (by decide +kernel) (by decide +kernel)
set_option maxRecDepth 20000 in
theorem gX1_umbrellas_X0_umbrellas : GoodIn wsX1_umbrellas (wsV RX1 81 RX0 yX0_umbrellas wsX0_umbrellas) := goodIn_app (goodIn_of _ (by decide +kernel)) ggX1_umbrellas_X0_umbrellas
theorem dX1_umbrellas_0 : decode cX1_umbrellas 0 = .ok (.aload_n 0, 1) := by decide +kernel
theorem dX1_umbrellas_1 : decode cX1_umbrellas 1 = .ok (.getfield 15, 3) := by decide +kernel
theorem dX1_umbrellas_4 : decode cX1_umbrellas 4 = .ok (.invokevirtual 81, 3) := by decide +kernel
theorem dX1_umbrellas_7 : decode cX1_umbrellas 7 = .ok (.aload_n 0, 1) := by decide +kernel
theorem dX1_umbrellas_8 : decode cX1_umbrellas 8 = .ok (.getfield 23, 3) := by decide +kernel
theorem dX1_umbrellas_11 : decode cX1_umbrellas 11 = .ok (.iconst (-1), 1) := by decide +kernel
theorem dX1_umbrellas_12 : decode cX1_umbrellas 12 = .ok (.ixor, 1) := by decide +kernel
theorem dX1_umbrellas_13 : decode cX1_umbrellas 13 = .ok (.iand, 1) := by decide +kernel
theorem dX1_umbrellas_14 : decode cX1_umbrellas 14 = .ok (.ireturn, 1) := by decide +kernel
set_option maxRecDepth 20000 in
theorem ggX1_rain_X1_umbrellas : GoodIn wsX1_rain wsX1_umbrellas := goodIn_r _ [6, 1, 7, 8, 9, 10, 11, 12, 13, 14, 49, 50, 51, 52, 53, 54, 55, 56, 57, 58, 59, 60, 61, 62, 63, 64, 65] (by decide +kernel) (by decide +kernel)
set_option maxRecDepth 20000 in
theorem gX1_rain_X1_umbrellas : GoodIn wsX1_rain (wsV RX1 55 RX1 yX1_umbrellas wsX1_umbrellas) := goodIn_app (goodIn_of _ (by decide +kernel)) ggX1_rain_X1_umbrellas
set_option maxRecDepth 20000 in
theorem ggX1_rain_X0_firstOf : GoodIn wsX1_rain wsX0_firstOf := goodIn_r _ [18, 19, 20, 21, 22, 23, 24, 25, 26, 27, 28, 29, 30, 31, 11, 32, 33, 34, 35, 36, 37, 38, 54, 55, 56, 57, 58, 59, 60, 61, 62, 63, 64, 65] (by decide +kernel) (by decide +kernel)
set_option maxRecDepth 20000 in
theorem gX1_rain_X0_firstOf : GoodIn wsX1_rain (wsV RX1 82 RX0 yX0_firstOf wsX0_firstOf) := goodIn_app (goodIn_of _ (by decide +kernel)) ggX1_rain_X0_firstOf
set_option maxRecDepth 20000 in
theorem ggX1_rain_X1_opened : GoodIn wsX1_rain wsX1_opened := goodIn_r _ [42, 43, 44, 45, 5, 46, 47, 48, 49, 50, 51, 52, 53] (by decide +kernel) (by decide +kernel)
set_option maxRecDepth 20000 in
theorem gX1_rain_X1_opened : GoodIn wsX1_rain (wsV RX1 65 RX1 yX1_opened wsX1_opened) := goodIn_app (goodIn_of _ (by decide +kernel)) ggX1_rain_X1_opened
theorem dX1_rain_0 : decode cX1_rain 0 = .ok (.aload_n 0, 1) := by decide +kernel
theorem dX1_rain_1 : decode cX1_rain 1 = .ok (.aload_n 0, 1) := by decide +kernel
theorem dX1_rain_2 : decode cX1_rain 2 = .ok (.getfield 15, 3) := by decide +kernel
theorem dX1_rain_5 : decode cX1_rain 5 = .ok (.aload_n 0, 1) := by decide +kernel
theorem dX1_rain_6 : decode cX1_rain 6 = .ok (.invokevirtual 55, 3) := by decide +kernel
theorem dX1_rain_9 : decode cX1_rain 9 = .ok (.iload_n 1, 1) := by decide +kernel
theorem dX1_rain_10 : decode cX1_rain 10 = .ok (.invokevirtual 82, 3) := by decide +kernel
theorem dX1_rain_13 : decode cX1_rain 13 = .ok (.invokevirtual 65, 3) := by decide +kernel
theorem dX1_rain_16 : decode cX1_rain 16 = .ok (.return_, 1) := by decide +kernel
set_option maxRecDepth 20000 in
theorem ggX1_opened_X1_become : GoodIn wsX1_opened wsX1_become := goodIn_r _ [5, 6, 7, 8, 9, 10, 11, 12] (by decide +kernel) (by decide +kernel)
set_option maxRecDepth 20000 in
theorem gX1_opened_X1_become : GoodIn wsX1_opened (wsV RX1 69 RX1 yX1_become wsX1_become) := goodIn_app (goodIn_of _ (by decide +kernel)) ggX1_opened_X1_become
theorem dX1_opened_0 : decode cX1_opened 0 = .ok (.iload_n 1, 1) := by decide +kernel
theorem dX1_opened_1 : decode cX1_opened 1 = .ok (.ifCond .eq 8, 3) := by decide +kernel
theorem dX1_opened_4 : decode cX1_opened 4 = .ok (.aload_n 0, 1) := by decide +kernel
theorem dX1_opened_5 : decode cX1_opened 5 = .ok (.iload_n 1, 1) := by decide +kernel
theorem dX1_opened_6 : decode cX1_opened 6 = .ok (.invokevirtual 69, 3) := by decide +kernel
theorem dX1_opened_9 : decode cX1_opened 9 = .ok (.return_, 1) := by decide +kernel
set_option maxRecDepth 20000 in
theorem ggX1_breakUmbrella_X4_withBit : GoodIn wsX1_breakUmbrella wsX4_withBit := goodIn_r _ [5] (by decide +kernel) (by decide +kernel)
set_option maxRecDepth 20000 in
theorem gX1_breakUmbrella_X4_withBit_n85 : GoodIn wsX1_breakUmbrella (wsX4_withBit) := ggX1_breakUmbrella_X4_withBit
set_option maxRecDepth 20000 in
theorem ggX1_breakUmbrella_X1_become : GoodIn wsX1_breakUmbrella wsX1_become := goodIn_r _ [10, 2, 11, 12, 13, 14, 15, 16] (by decide +kernel) (by decide +kernel)
set_option maxRecDepth 20000 in
theorem gX1_breakUmbrella_X1_become : GoodIn wsX1_breakUmbrella (wsV RX1 69 RX1 yX1_become wsX1_become) := goodIn_app (goodIn_of _ (by decide +kernel)) ggX1_breakUmbrella_X1_become
theorem dX1_breakUmbrella_0 : decode cX1_breakUmbrella 0 = .ok (.aload_n 0, 1) := by decide +kernel
theorem dX1_breakUmbrella_1 : decode cX1_breakUmbrella 1 = .ok (.aload_n 0, 1) := by decide +kernel
theorem dX1_breakUmbrella_2 : decode cX1_breakUmbrella 2 = .ok (.getfield 23, 3) := by decide +kernel
theorem dX1_breakUmbrella_5 : decode cX1_breakUmbrella 5 = .ok (.iload_n 1, 1) := by decide +kernel
theorem dX1_breakUmbrella_6 : decode cX1_breakUmbrella 6 = .ok (.iconst 1, 1) := by decide +kernel
theorem dX1_breakUmbrella_7 : decode cX1_breakUmbrella 7 = .ok (.invokestatic 85, 3) := by decide +kernel
theorem dX1_breakUmbrella_10 : decode cX1_breakUmbrella 10 = .ok (.putfield 23, 3) := by decide +kernel
theorem dX1_breakUmbrella_13 : decode cX1_breakUmbrella 13 = .ok (.aload_n 0, 1) := by decide +kernel
theorem dX1_breakUmbrella_14 : decode cX1_breakUmbrella 14 = .ok (.aload_n 0, 1) := by decide +kernel
theorem dX1_breakUmbrella_15 : decode cX1_breakUmbrella 15 = .ok (.getfield 19, 3) := by decide +kernel
theorem dX1_breakUmbrella_18 : decode cX1_breakUmbrella 18 = .ok (.iload_n 1, 1) := by decide +kernel
theorem dX1_breakUmbrella_19 : decode cX1_breakUmbrella 19 = .ok (.iconst 0, 1) := by decide +kernel
theorem dX1_breakUmbrella_20 : decode cX1_breakUmbrella 20 = .ok (.invokestatic 85, 3) := by decide +kernel
theorem dX1_breakUmbrella_23 : decode cX1_breakUmbrella 23 = .ok (.invokevirtual 69, 3) := by decide +kernel
theorem dX1_breakUmbrella_26 : decode cX1_breakUmbrella 26 = .ok (.return_, 1) := by decide +kernel
theorem dX1_become_0 : decode cX1_become 0 = .ok (.iload_n 1, 1) := by decide +kernel
theorem dX1_become_1 : decode cX1_become 1 = .ok (.aload_n 0, 1) := by decide +kernel
theorem dX1_become_2 : decode cX1_become 2 = .ok (.getfield 19, 3) := by decide +kernel
theorem dX1_become_5 : decode cX1_become 5 = .ok (.if_icmp .eq 17, 3) := by decide +kernel
theorem dX1_become_8 : decode cX1_become 8 = .ok (.iload_n 1, 1) := by decide +kernel
theorem dX1_become_9 : decode cX1_become 9 = .ok (.ifCond .eq 13, 3) := by decide +kernel
theorem dX1_become_12 : decode cX1_become 12 = .ok (.aload_n 0, 1) := by decide +kernel
theorem dX1_become_13 : decode cX1_become 13 = .ok (.dup, 1) := by decide +kernel
theorem dX1_become_14 : decode cX1_become 14 = .ok (.getfield 26, 3) := by decide +kernel
theorem dX1_become_17 : decode cX1_become 17 = .ok (.iconst 1, 1) := by decide +kernel
theorem dX1_become_18 : decode cX1_become 18 = .ok (.iadd, 1) := by decide +kernel
theorem dX1_become_19 : decode cX1_become 19 = .ok (.putfield 26, 3) := by decide +kernel
theorem dX1_become_22 : decode cX1_become 22 = .ok (.aload_n 0, 1) := by decide +kernel
theorem dX1_become_23 : decode cX1_become 23 = .ok (.iload_n 1, 1) := by decide +kernel
theorem dX1_become_24 : decode cX1_become 24 = .ok (.putfield 19, 3) := by decide +kernel
theorem dX1_become_27 : decode cX1_become 27 = .ok (.return_, 1) := by decide +kernel
set_option maxRecDepth 20000 in
theorem ggX1_pass_X4_hasBit : GoodIn wsX1_pass wsX4_hasBit := goodIn_r _ [7] (by decide +kernel) (by decide +kernel)
set_option maxRecDepth 20000 in
theorem gX1_pass_X4_hasBit_n89 : GoodIn wsX1_pass (wsX4_hasBit) := ggX1_pass_X4_hasBit
theorem dX1_pass_0 : decode cX1_pass 0 = .ok (.iconst 0, 1) := by decide +kernel
theorem dX1_pass_1 : decode cX1_pass 1 = .ok (.istore_n 2, 1) := by decide +kernel
theorem dX1_pass_2 : decode cX1_pass 2 = .ok (.iload_n 2, 1) := by decide +kernel
theorem dX1_pass_3 : decode cX1_pass 3 = .ok (.bipush 6, 2) := by decide +kernel
theorem dX1_pass_5 : decode cX1_pass 5 = .ok (.if_icmp .ge 34, 3) := by decide +kernel
theorem dX1_pass_8 : decode cX1_pass 8 = .ok (.aload_n 0, 1) := by decide +kernel
theorem dX1_pass_9 : decode cX1_pass 9 = .ok (.getfield 9, 3) := by decide +kernel
theorem dX1_pass_12 : decode cX1_pass 12 = .ok (.iload_n 2, 1) := by decide +kernel
theorem dX1_pass_13 : decode cX1_pass 13 = .ok (.dup2, 1) := by decide +kernel
theorem dX1_pass_14 : decode cX1_pass 14 = .ok (.iaload, 1) := by decide +kernel
theorem dX1_pass_15 : decode cX1_pass 15 = .ok (.aload_n 0, 1) := by decide +kernel
theorem dX1_pass_16 : decode cX1_pass 16 = .ok (.getfield 19, 3) := by decide +kernel
theorem dX1_pass_19 : decode cX1_pass 19 = .ok (.iload_n 2, 1) := by decide +kernel
theorem dX1_pass_20 : decode cX1_pass 20 = .ok (.invokestatic 89, 3) := by decide +kernel
theorem dX1_pass_23 : decode cX1_pass 23 = .ok (.ifCond .eq 7, 3) := by decide +kernel
theorem dX1_pass_26 : decode cX1_pass 26 = .ok (.iload_n 1, 1) := by decide +kernel
theorem dX1_pass_27 : decode cX1_pass 27 = .ok (.goto 4, 3) := by decide +kernel
theorem dX1_pass_30 : decode cX1_pass 30 = .ok (.iconst 0, 1) := by decide +kernel
theorem dX1_pass_31 : decode cX1_pass 31 = .ok (.iadd, 1) := by decide +kernel
theorem dX1_pass_32 : decode cX1_pass 32 = .ok (.iastore, 1) := by decide +kernel
theorem dX1_pass_33 : decode cX1_pass 33 = .ok (.iinc 2 1, 3) := by decide +kernel
theorem dX1_pass_36 : decode cX1_pass 36 = .ok (.goto (-34), 3) := by decide +kernel
theorem dX1_pass_39 : decode cX1_pass 39 = .ok (.aload_n 0, 1) := by decide +kernel
theorem dX1_pass_40 : decode cX1_pass 40 = .ok (.getfield 9, 3) := by decide +kernel
theorem dX1_pass_43 : decode cX1_pass 43 = .ok (.bipush 6, 2) := by decide +kernel
theorem dX1_pass_45 : decode cX1_pass 45 = .ok (.dup2, 1) := by decide +kernel
theorem dX1_pass_46 : decode cX1_pass 46 = .ok (.iaload, 1) := by decide +kernel
theorem dX1_pass_47 : decode cX1_pass 47 = .ok (.aload_n 0, 1) := by decide +kernel
theorem dX1_pass_48 : decode cX1_pass 48 = .ok (.getfield 19, 3) := by decide +kernel
theorem dX1_pass_51 : decode cX1_pass 51 = .ok (.aload_n 0, 1) := by decide +kernel
theorem dX1_pass_52 : decode cX1_pass 52 = .ok (.getfield 15, 3) := by decide +kernel
theorem dX1_pass_55 : decode cX1_pass 55 = .ok (.getfield 93, 3) := by decide +kernel
theorem dX1_pass_58 : decode cX1_pass 58 = .ok (.iconst (-1), 1) := by decide +kernel
theorem dX1_pass_59 : decode cX1_pass 59 = .ok (.ixor, 1) := by decide +kernel
theorem dX1_pass_60 : decode cX1_pass 60 = .ok (.iand, 1) := by decide +kernel
theorem dX1_pass_61 : decode cX1_pass 61 = .ok (.ifCond .eq 7, 3) := by decide +kernel
theorem dX1_pass_64 : decode cX1_pass 64 = .ok (.iload_n 1, 1) := by decide +kernel
theorem dX1_pass_65 : decode cX1_pass 65 = .ok (.goto 4, 3) := by decide +kernel
theorem dX1_pass_68 : decode cX1_pass 68 = .ok (.iconst 0, 1) := by decide +kernel
theorem dX1_pass_69 : decode cX1_pass 69 = .ok (.iadd, 1) := by decide +kernel
theorem dX1_pass_70 : decode cX1_pass 70 = .ok (.iastore, 1) := by decide +kernel
theorem dX1_pass_71 : decode cX1_pass 71 = .ok (.aload_n 0, 1) := by decide +kernel
theorem dX1_pass_72 : decode cX1_pass 72 = .ok (.getfield 9, 3) := by decide +kernel
theorem dX1_pass_75 : decode cX1_pass 75 = .ok (.bipush 7, 2) := by decide +kernel
theorem dX1_pass_77 : decode cX1_pass 77 = .ok (.dup2, 1) := by decide +kernel
theorem dX1_pass_78 : decode cX1_pass 78 = .ok (.iaload, 1) := by decide +kernel
theorem dX1_pass_79 : decode cX1_pass 79 = .ok (.aload_n 0, 1) := by decide +kernel
theorem dX1_pass_80 : decode cX1_pass 80 = .ok (.getfield 19, 3) := by decide +kernel
theorem dX1_pass_83 : decode cX1_pass 83 = .ok (.aload_n 0, 1) := by decide +kernel
theorem dX1_pass_84 : decode cX1_pass 84 = .ok (.getfield 15, 3) := by decide +kernel
theorem dX1_pass_87 : decode cX1_pass 87 = .ok (.getfield 93, 3) := by decide +kernel
theorem dX1_pass_90 : decode cX1_pass 90 = .ok (.iand, 1) := by decide +kernel
theorem dX1_pass_91 : decode cX1_pass 91 = .ok (.ifCond .eq 7, 3) := by decide +kernel
theorem dX1_pass_94 : decode cX1_pass 94 = .ok (.iload_n 1, 1) := by decide +kernel
theorem dX1_pass_95 : decode cX1_pass 95 = .ok (.goto 4, 3) := by decide +kernel
theorem dX1_pass_98 : decode cX1_pass 98 = .ok (.iconst 0, 1) := by decide +kernel
theorem dX1_pass_99 : decode cX1_pass 99 = .ok (.iadd, 1) := by decide +kernel
theorem dX1_pass_100 : decode cX1_pass 100 = .ok (.iastore, 1) := by decide +kernel
theorem dX1_pass_101 : decode cX1_pass 101 = .ok (.aload_n 0, 1) := by decide +kernel
theorem dX1_pass_102 : decode cX1_pass 102 = .ok (.getfield 9, 3) := by decide +kernel
theorem dX1_pass_105 : decode cX1_pass 105 = .ok (.bipush 8, 2) := by decide +kernel
theorem dX1_pass_107 : decode cX1_pass 107 = .ok (.dup2, 1) := by decide +kernel
theorem dX1_pass_108 : decode cX1_pass 108 = .ok (.iaload, 1) := by decide +kernel
theorem dX1_pass_109 : decode cX1_pass 109 = .ok (.aload_n 0, 1) := by decide +kernel
theorem dX1_pass_110 : decode cX1_pass 110 = .ok (.getfield 19, 3) := by decide +kernel
theorem dX1_pass_113 : decode cX1_pass 113 = .ok (.ifCond .ne 7, 3) := by decide +kernel
theorem dX1_pass_116 : decode cX1_pass 116 = .ok (.iload_n 1, 1) := by decide +kernel
theorem dX1_pass_117 : decode cX1_pass 117 = .ok (.goto 4, 3) := by decide +kernel
theorem dX1_pass_120 : decode cX1_pass 120 = .ok (.iconst 0, 1) := by decide +kernel
theorem dX1_pass_121 : decode cX1_pass 121 = .ok (.iadd, 1) := by decide +kernel
theorem dX1_pass_122 : decode cX1_pass 122 = .ok (.iastore, 1) := by decide +kernel
theorem dX1_pass_123 : decode cX1_pass 123 = .ok (.return_, 1) := by decide +kernel
set_option maxRecDepth 20000 in
theorem ggX1_yearsOf_X4_within : GoodIn wsX1_yearsOf wsX4_within := goodIn_r _ [4] (by decide +kernel) (by decide +kernel)
set_option maxRecDepth 20000 in
theorem gX1_yearsOf_X4_within_n96 : GoodIn wsX1_yearsOf (wsX4_within) := ggX1_yearsOf_X4_within
theorem dX1_yearsOf_0 : decode cX1_yearsOf 0 = .ok (.iload_n 1, 1) := by decide +kernel
theorem dX1_yearsOf_1 : decode cX1_yearsOf 1 = .ok (.iconst 0, 1) := by decide +kernel
theorem dX1_yearsOf_2 : decode cX1_yearsOf 2 = .ok (.bipush 8, 2) := by decide +kernel
theorem dX1_yearsOf_4 : decode cX1_yearsOf 4 = .ok (.invokestatic 96, 3) := by decide +kernel
theorem dX1_yearsOf_7 : decode cX1_yearsOf 7 = .ok (.ifCond .eq 12, 3) := by decide +kernel
theorem dX1_yearsOf_10 : decode cX1_yearsOf 10 = .ok (.aload_n 0, 1) := by decide +kernel
theorem dX1_yearsOf_11 : decode cX1_yearsOf 11 = .ok (.getfield 9, 3) := by decide +kernel
theorem dX1_yearsOf_14 : decode cX1_yearsOf 14 = .ok (.iload_n 1, 1) := by decide +kernel
theorem dX1_yearsOf_15 : decode cX1_yearsOf 15 = .ok (.iaload, 1) := by decide +kernel
theorem dX1_yearsOf_16 : decode cX1_yearsOf 16 = .ok (.goto 4, 3) := by decide +kernel
theorem dX1_yearsOf_19 : decode cX1_yearsOf 19 = .ok (.iconst 0, 1) := by decide +kernel
theorem dX1_yearsOf_20 : decode cX1_yearsOf 20 = .ok (.ireturn, 1) := by decide +kernel
theorem dX2_init_0 : decode cX2_init 0 = .ok (.aload_n 0, 1) := by decide +kernel
theorem dX2_init_1 : decode cX2_init 1 = .ok (.invokespecial 3, 3) := by decide +kernel
theorem dX2_init_4 : decode cX2_init 4 = .ok (.aload_n 0, 1) := by decide +kernel
theorem dX2_init_5 : decode cX2_init 5 = .ok (.bipush 40, 2) := by decide +kernel
theorem dX2_init_7 : decode cX2_init 7 = .ok (.newarray .int, 2) := by decide +kernel
theorem dX2_init_9 : decode cX2_init 9 = .ok (.putfield 9, 3) := by decide +kernel
theorem dX2_init_12 : decode cX2_init 12 = .ok (.return_, 1) := by decide +kernel
set_option maxRecDepth 20000 in
theorem ggX2_write_X4_within : GoodIn wsX2_write wsX4_within := goodIn_r _ [5] (by decide +kernel) (by decide +kernel)
set_option maxRecDepth 20000 in
theorem gX2_write_X4_within_n19 : GoodIn wsX2_write (wsX4_within) := ggX2_write_X4_within
theorem dX2_write_0 : decode cX2_write 0 = .ok (.aload_n 0, 1) := by decide +kernel
theorem dX2_write_1 : decode cX2_write 1 = .ok (.getfield 15, 3) := by decide +kernel
theorem dX2_write_4 : decode cX2_write 4 = .ok (.iconst 0, 1) := by decide +kernel
theorem dX2_write_5 : decode cX2_write 5 = .ok (.bipush 39, 2) := by decide +kernel
theorem dX2_write_7 : decode cX2_write 7 = .ok (.invokestatic 19, 3) := by decide +kernel
theorem dX2_write_10 : decode cX2_write 10 = .ok (.ifCond .ne 5, 3) := by decide +kernel
theorem dX2_write_13 : decode cX2_write 13 = .ok (.iconst 0, 1) := by decide +kernel
theorem dX2_write_14 : decode cX2_write 14 = .ok (.ireturn, 1) := by decide +kernel
theorem dX2_write_15 : decode cX2_write 15 = .ok (.aload_n 0, 1) := by decide +kernel
theorem dX2_write_16 : decode cX2_write 16 = .ok (.getfield 9, 3) := by decide +kernel
theorem dX2_write_19 : decode cX2_write 19 = .ok (.aload_n 0, 1) := by decide +kernel
theorem dX2_write_20 : decode cX2_write 20 = .ok (.getfield 15, 3) := by decide +kernel
theorem dX2_write_23 : decode cX2_write 23 = .ok (.iload_n 1, 1) := by decide +kernel
theorem dX2_write_24 : decode cX2_write 24 = .ok (.iastore, 1) := by decide +kernel
theorem dX2_write_25 : decode cX2_write 25 = .ok (.aload_n 0, 1) := by decide +kernel
theorem dX2_write_26 : decode cX2_write 26 = .ok (.dup, 1) := by decide +kernel
theorem dX2_write_27 : decode cX2_write 27 = .ok (.getfield 15, 3) := by decide +kernel
theorem dX2_write_30 : decode cX2_write 30 = .ok (.iconst 1, 1) := by decide +kernel
theorem dX2_write_31 : decode cX2_write 31 = .ok (.iadd, 1) := by decide +kernel
theorem dX2_write_32 : decode cX2_write 32 = .ok (.putfield 15, 3) := by decide +kernel
theorem dX2_write_35 : decode cX2_write 35 = .ok (.iconst 1, 1) := by decide +kernel
theorem dX2_write_36 : decode cX2_write 36 = .ok (.ireturn, 1) := by decide +kernel
set_option maxRecDepth 20000 in
theorem ggX2_sign_X4_within : GoodIn wsX2_sign wsX4_within := goodIn_r _ [4] (by decide +kernel) (by decide +kernel)
set_option maxRecDepth 20000 in
theorem gX2_sign_X4_within_n19 : GoodIn wsX2_sign (wsX4_within) := ggX2_sign_X4_within
theorem dX2_sign_0 : decode cX2_sign 0 = .ok (.iload_n 1, 1) := by decide +kernel
theorem dX2_sign_1 : decode cX2_sign 1 = .ok (.iconst 0, 1) := by decide +kernel
theorem dX2_sign_2 : decode cX2_sign 2 = .ok (.bipush 39, 2) := by decide +kernel
theorem dX2_sign_4 : decode cX2_sign 4 = .ok (.invokestatic 19, 3) := by decide +kernel
theorem dX2_sign_7 : decode cX2_sign 7 = .ok (.ifCond .eq 12, 3) := by decide +kernel
theorem dX2_sign_10 : decode cX2_sign 10 = .ok (.aload_n 0, 1) := by decide +kernel
theorem dX2_sign_11 : decode cX2_sign 11 = .ok (.getfield 9, 3) := by decide +kernel
theorem dX2_sign_14 : decode cX2_sign 14 = .ok (.iload_n 1, 1) := by decide +kernel
theorem dX2_sign_15 : decode cX2_sign 15 = .ok (.iaload, 1) := by decide +kernel
theorem dX2_sign_16 : decode cX2_sign 16 = .ok (.goto 4, 3) := by decide +kernel
theorem dX2_sign_19 : decode cX2_sign 19 = .ok (.iconst 0, 1) := by decide +kernel
theorem dX2_sign_20 : decode cX2_sign 20 = .ok (.ireturn, 1) := by decide +kernel
theorem dX2_takesAnother_0 : decode cX2_takesAnother 0 = .ok (.iload_n 0, 1) := by decide +kernel
theorem dX2_takesAnother_1 : decode cX2_takesAnother 1 = .ok (.bipush 33, 2) := by decide +kernel
theorem dX2_takesAnother_3 : decode cX2_takesAnother 3 = .ok (.if_icmp .eq 15, 3) := by decide +kernel
theorem dX2_takesAnother_6 : decode cX2_takesAnother 6 = .ok (.iload_n 0, 1) := by decide +kernel
theorem dX2_takesAnother_7 : decode cX2_takesAnother 7 = .ok (.bipush 45, 2) := by decide +kernel
theorem dX2_takesAnother_9 : decode cX2_takesAnother 9 = .ok (.if_icmp .eq 9, 3) := by decide +kernel
theorem dX2_takesAnother_12 : decode cX2_takesAnother 12 = .ok (.iload_n 0, 1) := by decide +kernel
theorem dX2_takesAnother_13 : decode cX2_takesAnother 13 = .ok (.bipush 126, 2) := by decide +kernel
theorem dX2_takesAnother_15 : decode cX2_takesAnother 15 = .ok (.if_icmp .ne 7, 3) := by decide +kernel
theorem dX2_takesAnother_18 : decode cX2_takesAnother 18 = .ok (.iconst 1, 1) := by decide +kernel
theorem dX2_takesAnother_19 : decode cX2_takesAnother 19 = .ok (.goto 4, 3) := by decide +kernel
theorem dX2_takesAnother_22 : decode cX2_takesAnother 22 = .ok (.iconst 0, 1) := by decide +kernel
theorem dX2_takesAnother_23 : decode cX2_takesAnother 23 = .ok (.ireturn, 1) := by decide +kernel
set_option maxRecDepth 20000 in
theorem ggX2_canBegin_X4_within : GoodIn wsX2_canBegin wsX4_within := goodIn_r _ [3] (by decide +kernel) (by decide +kernel)
set_option maxRecDepth 20000 in
theorem gX2_canBegin_X4_within_n19 : GoodIn wsX2_canBegin (wsX4_within) := ggX2_canBegin_X4_within
set_option maxRecDepth 20000 in
theorem ggX2_canBegin_X2_takesAnother : GoodIn wsX2_canBegin wsX2_takesAnother := goodIn_r _ [7] (by decide +kernel) (by decide +kernel)
set_option maxRecDepth 20000 in
theorem gX2_canBegin_X2_takesAnother : GoodIn wsX2_canBegin (va_wsS RX2 23 yX2_takesAnother wsX2_takesAnother) := goodIn_app (goodIn_of _ (by decide +kernel)) ggX2_canBegin_X2_takesAnother
theorem dX2_canBegin_0 : decode cX2_canBegin 0 = .ok (.iload_n 0, 1) := by decide +kernel
theorem dX2_canBegin_1 : decode cX2_canBegin 1 = .ok (.bipush 48, 2) := by decide +kernel
theorem dX2_canBegin_3 : decode cX2_canBegin 3 = .ok (.bipush 57, 2) := by decide +kernel
theorem dX2_canBegin_5 : decode cX2_canBegin 5 = .ok (.invokestatic 19, 3) := by decide +kernel
theorem dX2_canBegin_8 : decode cX2_canBegin 8 = .ok (.ifCond .ne 16, 3) := by decide +kernel
theorem dX2_canBegin_11 : decode cX2_canBegin 11 = .ok (.iload_n 0, 1) := by decide +kernel
theorem dX2_canBegin_12 : decode cX2_canBegin 12 = .ok (.bipush 46, 2) := by decide +kernel
theorem dX2_canBegin_14 : decode cX2_canBegin 14 = .ok (.if_icmp .eq 10, 3) := by decide +kernel
theorem dX2_canBegin_17 : decode cX2_canBegin 17 = .ok (.iload_n 0, 1) := by decide +kernel
theorem dX2_canBegin_18 : decode cX2_canBegin 18 = .ok (.invokestatic 23, 3) := by decide +kernel
theorem dX2_canBegin_21 : decode cX2_canBegin 21 = .ok (.ifCond .eq 7, 3) := by decide +kernel
theorem dX2_canBegin_24 : decode cX2_canBegin 24 = .ok (.iconst 1, 1) := by decide +kernel
theorem dX2_canBegin_25 : decode cX2_canBegin 25 = .ok (.goto 4, 3) := by decide +kernel
theorem dX2_canBegin_28 : decode cX2_canBegin 28 = .ok (.iconst 0, 1) := by decide +kernel
theorem dX2_canBegin_29 : decode cX2_canBegin 29 = .ok (.ireturn, 1) := by decide +kernel
set_option maxRecDepth 20000 in
theorem ggX2_canFollow_X4_within : GoodIn wsX2_canFollow wsX4_within := goodIn_r _ [3] (by decide +kernel) (by decide +kernel)
set_option maxRecDepth 20000 in
theorem gX2_canFollow_X4_within_n19 : GoodIn wsX2_canFollow (wsX4_within) := ggX2_canFollow_X4_within
theorem dX2_canFollow_0 : decode cX2_canFollow 0 = .ok (.iload_n 0, 1) := by decide +kernel
theorem dX2_canFollow_1 : decode cX2_canFollow 1 = .ok (.lookupswitch 45 #[(33, 27), (45, 36)], 27) := by decide +kernel
theorem dX2_canFollow_28 : decode cX2_canFollow 28 = .ok (.iload_n 1, 1) := by decide +kernel
theorem dX2_canFollow_29 : decode cX2_canFollow 29 = .ok (.bipush 48, 2) := by decide +kernel
theorem dX2_canFollow_31 : decode cX2_canFollow 31 = .ok (.bipush 57, 2) := by decide +kernel
theorem dX2_canFollow_33 : decode cX2_canFollow 33 = .ok (.invokestatic 19, 3) := by decide +kernel
theorem dX2_canFollow_36 : decode cX2_canFollow 36 = .ok (.ireturn, 1) := by decide +kernel
theorem dX2_canFollow_37 : decode cX2_canFollow 37 = .ok (.iload_n 1, 1) := by decide +kernel
theorem dX2_canFollow_38 : decode cX2_canFollow 38 = .ok (.bipush 49, 2) := by decide +kernel
theorem dX2_canFollow_40 : decode cX2_canFollow 40 = .ok (.bipush 57, 2) := by decide +kernel
theorem dX2_canFollow_42 : decode cX2_canFollow 42 = .ok (.invokestatic 19, 3) := by decide +kernel
theorem dX2_canFollow_45 : decode cX2_canFollow 45 = .ok (.ireturn, 1) := by decide +kernel
theorem dX2_canFollow_46 : decode cX2_canFollow 46 = .ok (.iload_n 1, 1) := by decide +kernel
theorem dX2_canFollow_47 : decode cX2_canFollow 47 = .ok (.bipush 65, 2) := by decide +kernel
theorem dX2_canFollow_49 : decode cX2_canFollow 49 = .ok (.bipush 70, 2) := by decide +kernel
theorem dX2_canFollow_51 : decode cX2_canFollow 51 = .ok (.invokestatic 19, 3) := by decide +kernel
theorem dX2_canFollow_54 : decode cX2_canFollow 54 = .ok (.ireturn, 1) := by decide +kernel
set_option maxRecDepth 20000 in
theorem ggX2_firstFault_X2_sign : GoodIn wsX2_firstFault wsX2_sign := goodIn_r _ [6, 7, 8, 9, 10, 20, 21] (by decide +kernel) (by decide +kernel)
set_option maxRecDepth 20000 in
theorem gX2_firstFault_X2_sign : GoodIn wsX2_firstFault (wsV RX2 27 RX2 yX2_sign wsX2_sign) := goodIn_app (goodIn_of _ (by decide +kernel)) ggX2_firstFault_X2_sign
set_option maxRecDepth 20000 in
theorem ggX2_firstFault_X2_canBegin : GoodIn wsX2_firstFault wsX2_canBegin := goodIn_r _ [13, 8, 9, 10, 14, 15, 5, 16] (by decide +kernel) (by decide +kernel)
set_option maxRecDepth 20000 in
theorem gX2_firstFault_X2_canBegin : GoodIn wsX2_firstFault (va_wsS RX2 31 yX2_canBegin wsX2_canBegin) := goodIn_app (goodIn_of _ (by decide +kernel)) ggX2_firstFault_X2_canBegin
set_option maxRecDepth 20000 in
theorem ggX2_firstFault_X2_canFollow : GoodIn wsX2_firstFault wsX2_canFollow := goodIn_r _ [19, 8, 9, 10] (by decide +kernel) (by decide +kernel)
set_option maxRecDepth 20000 in
theorem gX2_firstFault_X2_canFollow : GoodIn wsX2_firstFault (va_wsS RX2 34 yX2_canFollow wsX2_canFollow) := goodIn_app (goodIn_of _ (by decide +kernel)) ggX2_firstFault_X2_canFollow
set_option maxRecDepth 20000 in
theorem ggX2_firstFault_X2_takesAnother : GoodIn wsX2_firstFault wsX2_takesAnother := goodIn_r _ [16] (by decide +kernel) (by decide +kernel)
set_option maxRecDepth 20000 in
theorem gX2_firstFault_X2_takesAnother : GoodIn wsX2_firstFault (va_wsS RX2 23 yX2_takesAnother wsX2_takesAnother) := goodIn_app (goodIn_of _ (by decide +kernel)) ggX2_firstFault_X2_takesAnother
theorem dX2_firstFault_0 : decode cX2_firstFault 0 = .ok (.iconst 0, 1) := by decide +kernel
theorem dX2_firstFault_1 : decode cX2_firstFault 1 = .ok (.istore_n 1, 1) := by decide +kernel
theorem dX2_firstFault_2 : decode cX2_firstFault 2 = .ok (.iconst 0, 1) := by decide +kernel
theorem dX2_firstFault_3 : decode cX2_firstFault 3 = .ok (.istore_n 2, 1) := by decide +kernel
theorem dX2_firstFault_4 : decode cX2_firstFault 4 = .ok (.iload_n 2, 1) := by decide +kernel
theorem dX2_firstFault_5 : decode cX2_firstFault 5 = .ok (.aload_n 0, 1) := by decide +kernel
theorem dX2_firstFault_6 : decode cX2_firstFault 6 = .ok (.getfield 15, 3) := by decide +kernel
theorem dX2_firstFault_9 : decode cX2_firstFault 9 = .ok (.if_icmp .ge 57, 3) := by decide +kernel
theorem dX2_firstFault_12 : decode cX2_firstFault 12 = .ok (.aload_n 0, 1) := by decide +kernel
theorem dX2_firstFault_13 : decode cX2_firstFault 13 = .ok (.iload_n 2, 1) := by decide +kernel
theorem dX2_firstFault_14 : decode cX2_firstFault 14 = .ok (.invokevirtual 27, 3) := by decide +kernel
theorem dX2_firstFault_17 : decode cX2_firstFault 17 = .ok (.istore_n 3, 1) := by decide +kernel
theorem dX2_firstFault_18 : decode cX2_firstFault 18 = .ok (.iload_n 1, 1) := by decide +kernel
theorem dX2_firstFault_19 : decode cX2_firstFault 19 = .ok (.ifCond .ne 10, 3) := by decide +kernel
theorem dX2_firstFault_22 : decode cX2_firstFault 22 = .ok (.iload_n 3, 1) := by decide +kernel
theorem dX2_firstFault_23 : decode cX2_firstFault 23 = .ok (.invokestatic 31, 3) := by decide +kernel
theorem dX2_firstFault_26 : decode cX2_firstFault 26 = .ok (.goto 8, 3) := by decide +kernel
theorem dX2_firstFault_29 : decode cX2_firstFault 29 = .ok (.iload_n 1, 1) := by decide +kernel
theorem dX2_firstFault_30 : decode cX2_firstFault 30 = .ok (.iload_n 3, 1) := by decide +kernel
theorem dX2_firstFault_31 : decode cX2_firstFault 31 = .ok (.invokestatic 34, 3) := by decide +kernel
theorem dX2_firstFault_34 : decode cX2_firstFault 34 = .ok (.istore 4, 2) := by decide +kernel
theorem dX2_firstFault_36 : decode cX2_firstFault 36 = .ok (.iload 4, 2) := by decide +kernel
theorem dX2_firstFault_38 : decode cX2_firstFault 38 = .ok (.ifCond .ne 5, 3) := by decide +kernel
theorem dX2_firstFault_41 : decode cX2_firstFault 41 = .ok (.iload_n 2, 1) := by decide +kernel
theorem dX2_firstFault_42 : decode cX2_firstFault 42 = .ok (.ireturn, 1) := by decide +kernel
theorem dX2_firstFault_43 : decode cX2_firstFault 43 = .ok (.iload_n 1, 1) := by decide +kernel
theorem dX2_firstFault_44 : decode cX2_firstFault 44 = .ok (.ifCond .ne 14, 3) := by decide +kernel
theorem dX2_firstFault_47 : decode cX2_firstFault 47 = .ok (.iload_n 3, 1) := by decide +kernel
theorem dX2_firstFault_48 : decode cX2_firstFault 48 = .ok (.invokestatic 23, 3) := by decide +kernel
theorem dX2_firstFault_51 : decode cX2_firstFault 51 = .ok (.ifCond .eq 7, 3) := by decide +kernel
theorem dX2_firstFault_54 : decode cX2_firstFault 54 = .ok (.iload_n 3, 1) := by decide +kernel
theorem dX2_firstFault_55 : decode cX2_firstFault 55 = .ok (.goto 4, 3) := by decide +kernel
theorem dX2_firstFault_58 : decode cX2_firstFault 58 = .ok (.iconst 0, 1) := by decide +kernel
theorem dX2_firstFault_59 : decode cX2_firstFault 59 = .ok (.istore_n 1, 1) := by decide +kernel
theorem dX2_firstFault_60 : decode cX2_firstFault 60 = .ok (.iinc 2 1, 3) := by decide +kernel
theorem dX2_firstFault_63 : decode cX2_firstFault 63 = .ok (.goto (-59), 3) := by decide +kernel
theorem dX2_firstFault_66 : decode cX2_firstFault 66 = .ok (.iload_n 1, 1) := by decide +kernel
theorem dX2_firstFault_67 : decode cX2_firstFault 67 = .ok (.ifCond .ne 8, 3) := by decide +kernel
theorem dX2_firstFault_70 : decode cX2_firstFault 70 = .ok (.bipush (-6), 2) := by decide +kernel
theorem dX2_firstFault_72 : decode cX2_firstFault 72 = .ok (.goto 7, 3) := by decide +kernel
theorem dX2_firstFault_75 : decode cX2_firstFault 75 = .ok (.aload_n 0, 1) := by decide +kernel
theorem dX2_firstFault_76 : decode cX2_firstFault 76 = .ok (.getfield 15, 3) := by decide +kernel
theorem dX2_firstFault_79 : decode cX2_firstFault 79 = .ok (.ireturn, 1) := by decide +kernel
set_option maxRecDepth 20000 in
theorem ggX2_parts_X2_sign : GoodIn wsX2_parts wsX2_sign := goodIn_r _ [6, 7, 8, 9, 10, 14, 15] (by decide +kernel) (by decide +kernel)
set_option maxRecDepth 20000 in
theorem gX2_parts_X2_sign : GoodIn wsX2_parts (wsV RX2 27 RX2 yX2_sign wsX2_sign) := goodIn_app (goodIn_of _ (by decide +kernel)) ggX2_parts_X2_sign
set_option maxRecDepth 20000 in
theorem ggX2_parts_X2_takesAnother : GoodIn wsX2_parts wsX2_takesAnother := goodIn_r _ [13] (by decide +kernel) (by decide +kernel)
set_option maxRecDepth 20000 in
theorem gX2_parts_X2_takesAnother : GoodIn wsX2_parts (va_wsS RX2 23 yX2_takesAnother wsX2_takesAnother) := goodIn_app (goodIn_of _ (by decide +kernel)) ggX2_parts_X2_takesAnother
theorem dX2_parts_0 : decode cX2_parts 0 = .ok (.iconst 0, 1) := by decide +kernel
theorem dX2_parts_1 : decode cX2_parts 1 = .ok (.istore_n 1, 1) := by decide +kernel
theorem dX2_parts_2 : decode cX2_parts 2 = .ok (.iconst 0, 1) := by decide +kernel
theorem dX2_parts_3 : decode cX2_parts 3 = .ok (.istore_n 2, 1) := by decide +kernel
theorem dX2_parts_4 : decode cX2_parts 4 = .ok (.iload_n 2, 1) := by decide +kernel
theorem dX2_parts_5 : decode cX2_parts 5 = .ok (.aload_n 0, 1) := by decide +kernel
theorem dX2_parts_6 : decode cX2_parts 6 = .ok (.getfield 15, 3) := by decide +kernel
theorem dX2_parts_9 : decode cX2_parts 9 = .ok (.if_icmp .ge 23, 3) := by decide +kernel
theorem dX2_parts_12 : decode cX2_parts 12 = .ok (.aload_n 0, 1) := by decide +kernel
theorem dX2_parts_13 : decode cX2_parts 13 = .ok (.iload_n 2, 1) := by decide +kernel
theorem dX2_parts_14 : decode cX2_parts 14 = .ok (.invokevirtual 27, 3) := by decide +kernel
theorem dX2_parts_17 : decode cX2_parts 17 = .ok (.invokestatic 23, 3) := by decide +kernel
theorem dX2_parts_20 : decode cX2_parts 20 = .ok (.ifCond .ne 6, 3) := by decide +kernel
theorem dX2_parts_23 : decode cX2_parts 23 = .ok (.iinc 1 1, 3) := by decide +kernel
theorem dX2_parts_26 : decode cX2_parts 26 = .ok (.iinc 2 1, 3) := by decide +kernel
theorem dX2_parts_29 : decode cX2_parts 29 = .ok (.goto (-25), 3) := by decide +kernel
theorem dX2_parts_32 : decode cX2_parts 32 = .ok (.iload_n 1, 1) := by decide +kernel
theorem dX2_parts_33 : decode cX2_parts 33 = .ok (.ireturn, 1) := by decide +kernel
theorem dX3_init_0 : decode cX3_init 0 = .ok (.aload_n 0, 1) := by decide +kernel
theorem dX3_init_1 : decode cX3_init 1 = .ok (.invokespecial 5, 3) := by decide +kernel
theorem dX3_init_4 : decode cX3_init 4 = .ok (.aload_n 0, 1) := by decide +kernel
theorem dX3_init_5 : decode cX3_init 5 = .ok (.bipush 10, 2) := by decide +kernel
theorem dX3_init_7 : decode cX3_init 7 = .ok (.newarray .int, 2) := by decide +kernel
theorem dX3_init_9 : decode cX3_init 9 = .ok (.putfield 11, 3) := by decide +kernel
theorem dX3_init_12 : decode cX3_init 12 = .ok (.aload_n 0, 1) := by decide +kernel
theorem dX3_init_13 : decode cX3_init 13 = .ok (.sipush 300, 3) := by decide +kernel
theorem dX3_init_16 : decode cX3_init 16 = .ok (.newarray .int, 2) := by decide +kernel
theorem dX3_init_18 : decode cX3_init 18 = .ok (.putfield 17, 3) := by decide +kernel
theorem dX3_init_21 : decode cX3_init 21 = .ok (.aload_n 0, 1) := by decide +kernel
theorem dX3_init_22 : decode cX3_init 22 = .ok (.sipush 3000, 3) := by decide +kernel
theorem dX3_init_25 : decode cX3_init 25 = .ok (.newarray .int, 2) := by decide +kernel
theorem dX3_init_27 : decode cX3_init 27 = .ok (.putfield 20, 3) := by decide +kernel
theorem dX3_init_30 : decode cX3_init 30 = .ok (.aload_n 0, 1) := by decide +kernel
theorem dX3_init_31 : decode cX3_init 31 = .ok (.sipush 300, 3) := by decide +kernel
theorem dX3_init_34 : decode cX3_init 34 = .ok (.newarray .int, 2) := by decide +kernel
theorem dX3_init_36 : decode cX3_init 36 = .ok (.putfield 23, 3) := by decide +kernel
theorem dX3_init_39 : decode cX3_init 39 = .ok (.return_, 1) := by decide +kernel
set_option maxRecDepth 20000 in
theorem ggX3_weigh_J7_fill_53178 : GoodIn wsX3_weigh wsJ7_fill_53178 := goodIn_r _ [12] (by decide +kernel) (by decide +kernel)
set_option maxRecDepth 20000 in
theorem gX3_weigh_J7_fill_53178 : GoodIn wsX3_weigh (va_wsS RX3 35 yJ7_fill_53178 wsJ7_fill_53178) := goodIn_app (goodIn_of _ (by decide +kernel)) ggX3_weigh_J7_fill_53178
set_option maxRecDepth 20000 in
theorem ggX3_weigh_X3_fillSlots : GoodIn wsX3_weigh wsX3_fillSlots := goodIn_r _ [17, 18, 19, 8, 20, 21, 9, 10, 11, 12, 22, 23, 24, 25, 26, 27, 28, 29, 30, 31, 32, 33, 34, 35, 16, 36, 37, 38, 39, 40, 41, 42, 43, 44, 45, 46, 47, 48, 49, 50, 78, 79, 80, 81, 82, 66, 67, 68, 69, 70, 71, 72, 73, 74, 75, 76, 77] (by decide +kernel) (by decide +kernel)
set_option maxRecDepth 20000 in
theorem gX3_weigh_X3_fillSlots : GoodIn wsX3_weigh (wsV RX3 41 RX3 yX3_fillSlots wsX3_fillSlots) := goodIn_app (goodIn_of _ (by decide +kernel)) ggX3_weigh_X3_fillSlots
set_option maxRecDepth 20000 in
theorem ggX3_weigh_X3_weighRow : GoodIn wsX3_weigh wsX3_weighRow := goodIn_r _ [54, 18, 55, 56, 48, 57, 19, 2, 37, 38, 16, 39, 58, 59, 60, 61, 62, 7, 63, 64, 65, 78, 79, 80, 81, 82] (by decide +kernel) (by decide +kernel)
set_option maxRecDepth 20000 in
theorem gX3_weigh_X3_weighRow : GoodIn wsX3_weigh (wsV RX3 49 RX3 yX3_weighRow wsX3_weighRow) := goodIn_app (goodIn_of _ (by decide +kernel)) ggX3_weigh_X3_weighRow
theorem dX3_weigh_0 : decode cX3_weigh 0 = .ok (.aload_n 1, 1) := by decide +kernel
theorem dX3_weigh_1 : decode cX3_weigh 1 = .ok (.getfield 26, 3) := by decide +kernel
theorem dX3_weigh_4 : decode cX3_weigh 4 = .ok (.iconst 0, 1) := by decide +kernel
theorem dX3_weigh_5 : decode cX3_weigh 5 = .ok (.aload_n 0, 1) := by decide +kernel
theorem dX3_weigh_6 : decode cX3_weigh 6 = .ok (.getfield 11, 3) := by decide +kernel
theorem dX3_weigh_9 : decode cX3_weigh 9 = .ok (.iconst 0, 1) := by decide +kernel
theorem dX3_weigh_10 : decode cX3_weigh 10 = .ok (.bipush 10, 2) := by decide +kernel
theorem dX3_weigh_12 : decode cX3_weigh 12 = .ok (.invokestatic 29, 3) := by decide +kernel
theorem dX3_weigh_15 : decode cX3_weigh 15 = .ok (.aload_n 0, 1) := by decide +kernel
theorem dX3_weigh_16 : decode cX3_weigh 16 = .ok (.getfield 23, 3) := by decide +kernel
theorem dX3_weigh_19 : decode cX3_weigh 19 = .ok (.iconst 0, 1) := by decide +kernel
theorem dX3_weigh_20 : decode cX3_weigh 20 = .ok (.invokestatic 35, 3) := by decide +kernel
theorem dX3_weigh_23 : decode cX3_weigh 23 = .ok (.aload_n 0, 1) := by decide +kernel
theorem dX3_weigh_24 : decode cX3_weigh 24 = .ok (.aload_n 1, 1) := by decide +kernel
theorem dX3_weigh_25 : decode cX3_weigh 25 = .ok (.invokevirtual 41, 3) := by decide +kernel
theorem dX3_weigh_28 : decode cX3_weigh 28 = .ok (.iconst 0, 1) := by decide +kernel
theorem dX3_weigh_29 : decode cX3_weigh 29 = .ok (.istore_n 2, 1) := by decide +kernel
theorem dX3_weigh_30 : decode cX3_weigh 30 = .ok (.iload_n 2, 1) := by decide +kernel
theorem dX3_weigh_31 : decode cX3_weigh 31 = .ok (.aload_n 0, 1) := by decide +kernel
theorem dX3_weigh_32 : decode cX3_weigh 32 = .ok (.getfield 45, 3) := by decide +kernel
theorem dX3_weigh_35 : decode cX3_weigh 35 = .ok (.if_icmp .ge 21, 3) := by decide +kernel
theorem dX3_weigh_38 : decode cX3_weigh 38 = .ok (.iload_n 2, 1) := by decide +kernel
theorem dX3_weigh_39 : decode cX3_weigh 39 = .ok (.sipush 1000, 3) := by decide +kernel
theorem dX3_weigh_42 : decode cX3_weigh 42 = .ok (.if_icmp .ge 14, 3) := by decide +kernel
theorem dX3_weigh_45 : decode cX3_weigh 45 = .ok (.aload_n 0, 1) := by decide +kernel
theorem dX3_weigh_46 : decode cX3_weigh 46 = .ok (.iload_n 2, 1) := by decide +kernel
theorem dX3_weigh_47 : decode cX3_weigh 47 = .ok (.invokevirtual 49, 3) := by decide +kernel
theorem dX3_weigh_50 : decode cX3_weigh 50 = .ok (.iinc 2 1, 3) := by decide +kernel
theorem dX3_weigh_53 : decode cX3_weigh 53 = .ok (.goto (-23), 3) := by decide +kernel
theorem dX3_weigh_56 : decode cX3_weigh 56 = .ok (.return_, 1) := by decide +kernel
set_option maxRecDepth 20000 in
theorem ggX3_fillSlots_J7_fill_53178 : GoodIn wsX3_fillSlots wsJ7_fill_53178 := goodIn_r _ [9] (by decide +kernel) (by decide +kernel)
set_option maxRecDepth 20000 in
theorem gX3_fillSlots_J7_fill_53178 : GoodIn wsX3_fillSlots (va_wsS RX3 35 yJ7_fill_53178 wsJ7_fill_53178) := goodIn_app (goodIn_of _ (by decide +kernel)) ggX3_fillSlots_J7_fill_53178
set_option maxRecDepth 20000 in
theorem ggX3_fillSlots_X0_isThere : GoodIn wsX3_fillSlots wsX0_isThere := goodIn_r _ [14, 15, 16, 17, 18, 19, 20, 45, 46, 47, 48, 49, 50, 51, 52, 53, 54, 55, 56] (by decide +kernel) (by decide +kernel)
set_option maxRecDepth 20000 in
theorem gX3_fillSlots_X0_isThere : GoodIn wsX3_fillSlots (wsV RX3 54 RX0 yX0_isThere wsX0_isThere) := goodIn_app (goodIn_of _ (by decide +kernel)) ggX3_fillSlots_X0_isThere
set_option maxRecDepth 20000 in
theorem ggX3_fillSlots_X4_hasBit : GoodIn wsX3_fillSlots wsX4_hasBit := goodIn_r _ [20] (by decide +kernel) (by decide +kernel)
set_option maxRecDepth 20000 in
theorem gX3_fillSlots_X4_hasBit_n61 : GoodIn wsX3_fillSlots (wsX4_hasBit) := ggX3_fillSlots_X4_hasBit
set_option maxRecDepth 20000 in
theorem ggX3_fillSlots_X3_fillTimes : GoodIn wsX3_fillSlots wsX3_fillTimes := goodIn_r _ [25, 1, 26, 27, 24, 28, 29, 30, 31, 13, 32, 33, 34, 35, 36, 37, 38, 39, 19, 17, 20, 40, 41, 42, 43, 44, 45, 46, 47, 48, 49, 50, 51, 52, 53, 54, 55, 56] (by decide +kernel) (by decide +kernel)
set_option maxRecDepth 20000 in
theorem gX3_fillSlots_X3_fillTimes : GoodIn wsX3_fillSlots (wsV RX3 68 RX3 yX3_fillTimes wsX3_fillTimes) := goodIn_app (goodIn_of _ (by decide +kernel)) ggX3_fillSlots_X3_fillTimes
theorem dX3_fillSlots_0 : decode cX3_fillSlots 0 = .ok (.aload_n 0, 1) := by decide +kernel
theorem dX3_fillSlots_1 : decode cX3_fillSlots 1 = .ok (.getfield 17, 3) := by decide +kernel
theorem dX3_fillSlots_4 : decode cX3_fillSlots 4 = .ok (.ldc 53, 2) := by decide +kernel
theorem dX3_fillSlots_6 : decode cX3_fillSlots 6 = .ok (.invokestatic 35, 3) := by decide +kernel
theorem dX3_fillSlots_9 : decode cX3_fillSlots 9 = .ok (.aload_n 0, 1) := by decide +kernel
theorem dX3_fillSlots_10 : decode cX3_fillSlots 10 = .ok (.iconst 1, 1) := by decide +kernel
theorem dX3_fillSlots_11 : decode cX3_fillSlots 11 = .ok (.putfield 45, 3) := by decide +kernel
theorem dX3_fillSlots_14 : decode cX3_fillSlots 14 = .ok (.iconst 2, 1) := by decide +kernel
theorem dX3_fillSlots_15 : decode cX3_fillSlots 15 = .ok (.istore_n 2, 1) := by decide +kernel
theorem dX3_fillSlots_16 : decode cX3_fillSlots 16 = .ok (.iconst 5, 1) := by decide +kernel
theorem dX3_fillSlots_17 : decode cX3_fillSlots 17 = .ok (.istore_n 3, 1) := by decide +kernel
theorem dX3_fillSlots_18 : decode cX3_fillSlots 18 = .ok (.iload_n 3, 1) := by decide +kernel
theorem dX3_fillSlots_19 : decode cX3_fillSlots 19 = .ok (.ifCond .lt 61, 3) := by decide +kernel
theorem dX3_fillSlots_22 : decode cX3_fillSlots 22 = .ok (.iload_n 2, 1) := by decide +kernel
theorem dX3_fillSlots_23 : decode cX3_fillSlots 23 = .ok (.ifCond .lt 57, 3) := by decide +kernel
theorem dX3_fillSlots_26 : decode cX3_fillSlots 26 = .ok (.aload_n 1, 1) := by decide +kernel
theorem dX3_fillSlots_27 : decode cX3_fillSlots 27 = .ok (.iload_n 3, 1) := by decide +kernel
theorem dX3_fillSlots_28 : decode cX3_fillSlots 28 = .ok (.invokevirtual 54, 3) := by decide +kernel
theorem dX3_fillSlots_31 : decode cX3_fillSlots 31 = .ok (.ifCond .ne 6, 3) := by decide +kernel
theorem dX3_fillSlots_34 : decode cX3_fillSlots 34 = .ok (.goto 40, 3) := by decide +kernel
theorem dX3_fillSlots_37 : decode cX3_fillSlots 37 = .ok (.aload_n 1, 1) := by decide +kernel
theorem dX3_fillSlots_38 : decode cX3_fillSlots 38 = .ok (.getfield 58, 3) := by decide +kernel
theorem dX3_fillSlots_41 : decode cX3_fillSlots 41 = .ok (.iload_n 3, 1) := by decide +kernel
theorem dX3_fillSlots_42 : decode cX3_fillSlots 42 = .ok (.invokestatic 61, 3) := by decide +kernel
theorem dX3_fillSlots_45 : decode cX3_fillSlots 45 = .ok (.ifCond .ne 15, 3) := by decide +kernel
theorem dX3_fillSlots_48 : decode cX3_fillSlots 48 = .ok (.aload_n 0, 1) := by decide +kernel
theorem dX3_fillSlots_49 : decode cX3_fillSlots 49 = .ok (.aload_n 1, 1) := by decide +kernel
theorem dX3_fillSlots_50 : decode cX3_fillSlots 50 = .ok (.aload_n 1, 1) := by decide +kernel
theorem dX3_fillSlots_51 : decode cX3_fillSlots 51 = .ok (.getfield 65, 3) := by decide +kernel
theorem dX3_fillSlots_54 : decode cX3_fillSlots 54 = .ok (.iload_n 3, 1) := by decide +kernel
theorem dX3_fillSlots_55 : decode cX3_fillSlots 55 = .ok (.iaload, 1) := by decide +kernel
end
section
theorem dX3_fillSlots_56 : decode cX3_fillSlots 56 = .ok (.iload_n 2, 1) := by decide +kernel
theorem dX3_fillSlots_57 : decode cX3_fillSlots 57 = .ok (.invokevirtual 68, 3) := by decide +kernel
theorem dX3_fillSlots_60 : decode cX3_fillSlots 60 = .ok (.iinc 2 (-1), 3) := by decide +kernel
theorem dX3_fillSlots_63 : decode cX3_fillSlots 63 = .ok (.aload_n 0, 1) := by decide +kernel
theorem dX3_fillSlots_64 : decode cX3_fillSlots 64 = .ok (.dup, 1) := by decide +kernel
theorem dX3_fillSlots_65 : decode cX3_fillSlots 65 = .ok (.getfield 45, 3) := by decide +kernel
theorem dX3_fillSlots_68 : decode cX3_fillSlots 68 = .ok (.bipush 10, 2) := by decide +kernel
theorem dX3_fillSlots_70 : decode cX3_fillSlots 70 = .ok (.imul, 1) := by decide +kernel
theorem dX3_fillSlots_71 : decode cX3_fillSlots 71 = .ok (.putfield 45, 3) := by decide +kernel
theorem dX3_fillSlots_74 : decode cX3_fillSlots 74 = .ok (.iinc 3 (-1), 3) := by decide +kernel
theorem dX3_fillSlots_77 : decode cX3_fillSlots 77 = .ok (.goto (-59), 3) := by decide +kernel
theorem dX3_fillSlots_80 : decode cX3_fillSlots 80 = .ok (.return_, 1) := by decide +kernel
set_option maxRecDepth 20000 in
theorem ggX3_fillTimes_X3_pair : GoodIn wsX3_fillTimes wsX3_pair := goodIn_r _ [5] (by decide +kernel) (by decide +kernel)
set_option maxRecDepth 20000 in
theorem gX3_fillTimes_X3_pair : GoodIn wsX3_fillTimes (va_wsS RX3 72 yX3_pair wsX3_pair) := goodIn_app (goodIn_of _ (by decide +kernel)) ggX3_fillTimes_X3_pair
set_option maxRecDepth 20000 in
theorem ggX3_fillTimes_X0_openTimeAt : GoodIn wsX3_fillTimes wsX0_openTimeAt := goodIn_r _ [10, 11, 12, 13, 14, 15, 16, 17, 18, 19, 20, 26, 27, 28, 29, 30, 31, 32, 33, 34, 35, 36, 37] (by decide +kernel) (by decide +kernel)
set_option maxRecDepth 20000 in
theorem gX3_fillTimes_X0_openTimeAt : GoodIn wsX3_fillTimes (wsV RX3 76 RX0 yX0_openTimeAt wsX0_openTimeAt) := goodIn_app (goodIn_of _ (by decide +kernel)) ggX3_fillTimes_X0_openTimeAt
theorem dX3_fillTimes_0 : decode cX3_fillTimes 0 = .ok (.iconst 0, 1) := by decide +kernel
theorem dX3_fillTimes_1 : decode cX3_fillTimes 1 = .ok (.istore 4, 2) := by decide +kernel
theorem dX3_fillTimes_3 : decode cX3_fillTimes 3 = .ok (.iload 4, 2) := by decide +kernel
theorem dX3_fillTimes_5 : decode cX3_fillTimes 5 = .ok (.bipush 10, 2) := by decide +kernel
theorem dX3_fillTimes_7 : decode cX3_fillTimes 7 = .ok (.if_icmp .ge 47, 3) := by decide +kernel
theorem dX3_fillTimes_10 : decode cX3_fillTimes 10 = .ok (.iconst 0, 1) := by decide +kernel
theorem dX3_fillTimes_11 : decode cX3_fillTimes 11 = .ok (.istore 5, 2) := by decide +kernel
theorem dX3_fillTimes_13 : decode cX3_fillTimes 13 = .ok (.iload 5, 2) := by decide +kernel
theorem dX3_fillTimes_15 : decode cX3_fillTimes 15 = .ok (.bipush 10, 2) := by decide +kernel
theorem dX3_fillTimes_17 : decode cX3_fillTimes 17 = .ok (.if_icmp .ge 31, 3) := by decide +kernel
theorem dX3_fillTimes_20 : decode cX3_fillTimes 20 = .ok (.aload_n 0, 1) := by decide +kernel
theorem dX3_fillTimes_21 : decode cX3_fillTimes 21 = .ok (.getfield 17, 3) := by decide +kernel
theorem dX3_fillTimes_24 : decode cX3_fillTimes 24 = .ok (.iload_n 3, 1) := by decide +kernel
theorem dX3_fillTimes_25 : decode cX3_fillTimes 25 = .ok (.iload 4, 2) := by decide +kernel
theorem dX3_fillTimes_27 : decode cX3_fillTimes 27 = .ok (.iload 5, 2) := by decide +kernel
theorem dX3_fillTimes_29 : decode cX3_fillTimes 29 = .ok (.invokestatic 72, 3) := by decide +kernel
theorem dX3_fillTimes_32 : decode cX3_fillTimes 32 = .ok (.aload_n 1, 1) := by decide +kernel
theorem dX3_fillTimes_33 : decode cX3_fillTimes 33 = .ok (.iload 4, 2) := by decide +kernel
theorem dX3_fillTimes_35 : decode cX3_fillTimes 35 = .ok (.iload_n 2, 1) := by decide +kernel
theorem dX3_fillTimes_36 : decode cX3_fillTimes 36 = .ok (.iload 5, 2) := by decide +kernel
theorem dX3_fillTimes_38 : decode cX3_fillTimes 38 = .ok (.invokevirtual 76, 3) := by decide +kernel
theorem dX3_fillTimes_41 : decode cX3_fillTimes 41 = .ok (.iastore, 1) := by decide +kernel
theorem dX3_fillTimes_42 : decode cX3_fillTimes 42 = .ok (.iinc 5 1, 3) := by decide +kernel
theorem dX3_fillTimes_45 : decode cX3_fillTimes 45 = .ok (.goto (-32), 3) := by decide +kernel
theorem dX3_fillTimes_48 : decode cX3_fillTimes 48 = .ok (.iinc 4 1, 3) := by decide +kernel
theorem dX3_fillTimes_51 : decode cX3_fillTimes 51 = .ok (.goto (-48), 3) := by decide +kernel
theorem dX3_fillTimes_54 : decode cX3_fillTimes 54 = .ok (.return_, 1) := by decide +kernel
theorem dX3_pair_0 : decode cX3_pair 0 = .ok (.iload_n 0, 1) := by decide +kernel
theorem dX3_pair_1 : decode cX3_pair 1 = .ok (.bipush 10, 2) := by decide +kernel
theorem dX3_pair_3 : decode cX3_pair 3 = .ok (.imul, 1) := by decide +kernel
theorem dX3_pair_4 : decode cX3_pair 4 = .ok (.iload_n 1, 1) := by decide +kernel
theorem dX3_pair_5 : decode cX3_pair 5 = .ok (.iadd, 1) := by decide +kernel
theorem dX3_pair_6 : decode cX3_pair 6 = .ok (.bipush 10, 2) := by decide +kernel
theorem dX3_pair_8 : decode cX3_pair 8 = .ok (.imul, 1) := by decide +kernel
theorem dX3_pair_9 : decode cX3_pair 9 = .ok (.iload_n 2, 1) := by decide +kernel
theorem dX3_pair_10 : decode cX3_pair 10 = .ok (.iadd, 1) := by decide +kernel
theorem dX3_pair_11 : decode cX3_pair 11 = .ok (.ireturn, 1) := by decide +kernel
set_option maxRecDepth 20000 in
theorem ggX3_weighRow_X3_pair : GoodIn wsX3_weighRow wsX3_pair := goodIn_r _ [11] (by decide +kernel) (by decide +kernel)
set_option maxRecDepth 20000 in
theorem gX3_weighRow_X3_pair : GoodIn wsX3_weighRow (va_wsS RX3 72 yX3_pair wsX3_pair) := goodIn_app (goodIn_of _ (by decide +kernel)) ggX3_weighRow_X3_pair
set_option maxRecDepth 20000 in
theorem ggX3_weighRow_X3_keep : GoodIn wsX3_weighRow wsX3_keep := goodIn_r _ [15, 16, 17, 18, 19, 4, 20, 21, 22, 23, 24, 25] (by decide +kernel) (by decide +kernel)
set_option maxRecDepth 20000 in
theorem gX3_weighRow_X3_keep : GoodIn wsX3_weighRow (wsV RX3 85 RX3 yX3_keep wsX3_keep) := goodIn_app (goodIn_of _ (by decide +kernel)) ggX3_weighRow_X3_keep
theorem dX3_weighRow_0 : decode cX3_weighRow 0 = .ok (.iload_n 1, 1) := by decide +kernel
theorem dX3_weighRow_1 : decode cX3_weighRow 1 = .ok (.bipush 100, 2) := by decide +kernel
theorem dX3_weighRow_3 : decode cX3_weighRow 3 = .ok (.idiv, 1) := by decide +kernel
theorem dX3_weighRow_4 : decode cX3_weighRow 4 = .ok (.istore_n 2, 1) := by decide +kernel
theorem dX3_weighRow_5 : decode cX3_weighRow 5 = .ok (.iload_n 1, 1) := by decide +kernel
theorem dX3_weighRow_6 : decode cX3_weighRow 6 = .ok (.bipush 10, 2) := by decide +kernel
theorem dX3_weighRow_8 : decode cX3_weighRow 8 = .ok (.idiv, 1) := by decide +kernel
theorem dX3_weighRow_9 : decode cX3_weighRow 9 = .ok (.bipush 10, 2) := by decide +kernel
theorem dX3_weighRow_11 : decode cX3_weighRow 11 = .ok (.irem, 1) := by decide +kernel
theorem dX3_weighRow_12 : decode cX3_weighRow 12 = .ok (.istore_n 3, 1) := by decide +kernel
theorem dX3_weighRow_13 : decode cX3_weighRow 13 = .ok (.iload_n 1, 1) := by decide +kernel
theorem dX3_weighRow_14 : decode cX3_weighRow 14 = .ok (.bipush 10, 2) := by decide +kernel
theorem dX3_weighRow_16 : decode cX3_weighRow 16 = .ok (.irem, 1) := by decide +kernel
theorem dX3_weighRow_17 : decode cX3_weighRow 17 = .ok (.istore 4, 2) := by decide +kernel
theorem dX3_weighRow_19 : decode cX3_weighRow 19 = .ok (.iconst 0, 1) := by decide +kernel
theorem dX3_weighRow_20 : decode cX3_weighRow 20 = .ok (.iload_n 2, 1) := by decide +kernel
theorem dX3_weighRow_21 : decode cX3_weighRow 21 = .ok (.iconst 0, 1) := by decide +kernel
theorem dX3_weighRow_22 : decode cX3_weighRow 22 = .ok (.invokestatic 72, 3) := by decide +kernel
theorem dX3_weighRow_25 : decode cX3_weighRow 25 = .ok (.istore 5, 2) := by decide +kernel
theorem dX3_weighRow_27 : decode cX3_weighRow 27 = .ok (.iconst 1, 1) := by decide +kernel
theorem dX3_weighRow_28 : decode cX3_weighRow 28 = .ok (.iload_n 3, 1) := by decide +kernel
theorem dX3_weighRow_29 : decode cX3_weighRow 29 = .ok (.iconst 0, 1) := by decide +kernel
theorem dX3_weighRow_30 : decode cX3_weighRow 30 = .ok (.invokestatic 72, 3) := by decide +kernel
theorem dX3_weighRow_33 : decode cX3_weighRow 33 = .ok (.istore 6, 2) := by decide +kernel
theorem dX3_weighRow_35 : decode cX3_weighRow 35 = .ok (.iconst 2, 1) := by decide +kernel
theorem dX3_weighRow_36 : decode cX3_weighRow 36 = .ok (.iload 4, 2) := by decide +kernel
theorem dX3_weighRow_38 : decode cX3_weighRow 38 = .ok (.iconst 0, 1) := by decide +kernel
theorem dX3_weighRow_39 : decode cX3_weighRow 39 = .ok (.invokestatic 72, 3) := by decide +kernel
theorem dX3_weighRow_42 : decode cX3_weighRow 42 = .ok (.istore 7, 2) := by decide +kernel
theorem dX3_weighRow_44 : decode cX3_weighRow 44 = .ok (.iconst 0, 1) := by decide +kernel
theorem dX3_weighRow_45 : decode cX3_weighRow 45 = .ok (.istore 8, 2) := by decide +kernel
theorem dX3_weighRow_47 : decode cX3_weighRow 47 = .ok (.iconst 0, 1) := by decide +kernel
theorem dX3_weighRow_48 : decode cX3_weighRow 48 = .ok (.istore 9, 2) := by decide +kernel
theorem dX3_weighRow_50 : decode cX3_weighRow 50 = .ok (.iconst 0, 1) := by decide +kernel
theorem dX3_weighRow_51 : decode cX3_weighRow 51 = .ok (.istore 10, 2) := by decide +kernel
theorem dX3_weighRow_53 : decode cX3_weighRow 53 = .ok (.iconst 0, 1) := by decide +kernel
theorem dX3_weighRow_54 : decode cX3_weighRow 54 = .ok (.istore 11, 2) := by decide +kernel
theorem dX3_weighRow_56 : decode cX3_weighRow 56 = .ok (.iload 11, 2) := by decide +kernel
theorem dX3_weighRow_58 : decode cX3_weighRow 58 = .ok (.bipush 10, 2) := by decide +kernel
theorem dX3_weighRow_60 : decode cX3_weighRow 60 = .ok (.if_icmp .ge 184, 3) := by decide +kernel
theorem dX3_weighRow_63 : decode cX3_weighRow 63 = .ok (.aload_n 0, 1) := by decide +kernel
theorem dX3_weighRow_64 : decode cX3_weighRow 64 = .ok (.getfield 17, 3) := by decide +kernel
theorem dX3_weighRow_67 : decode cX3_weighRow 67 = .ok (.iload 5, 2) := by decide +kernel
theorem dX3_weighRow_69 : decode cX3_weighRow 69 = .ok (.iload 11, 2) := by decide +kernel
theorem dX3_weighRow_71 : decode cX3_weighRow 71 = .ok (.iadd, 1) := by decide +kernel
theorem dX3_weighRow_72 : decode cX3_weighRow 72 = .ok (.iaload, 1) := by decide +kernel
theorem dX3_weighRow_73 : decode cX3_weighRow 73 = .ok (.istore 12, 2) := by decide +kernel
theorem dX3_weighRow_75 : decode cX3_weighRow 75 = .ok (.aload_n 0, 1) := by decide +kernel
theorem dX3_weighRow_76 : decode cX3_weighRow 76 = .ok (.getfield 17, 3) := by decide +kernel
theorem dX3_weighRow_79 : decode cX3_weighRow 79 = .ok (.iload 6, 2) := by decide +kernel
theorem dX3_weighRow_81 : decode cX3_weighRow 81 = .ok (.iload 11, 2) := by decide +kernel
theorem dX3_weighRow_83 : decode cX3_weighRow 83 = .ok (.iadd, 1) := by decide +kernel
theorem dX3_weighRow_84 : decode cX3_weighRow 84 = .ok (.iaload, 1) := by decide +kernel
theorem dX3_weighRow_85 : decode cX3_weighRow 85 = .ok (.istore 13, 2) := by decide +kernel
theorem dX3_weighRow_87 : decode cX3_weighRow 87 = .ok (.aload_n 0, 1) := by decide +kernel
theorem dX3_weighRow_88 : decode cX3_weighRow 88 = .ok (.getfield 17, 3) := by decide +kernel
theorem dX3_weighRow_91 : decode cX3_weighRow 91 = .ok (.iload 7, 2) := by decide +kernel
theorem dX3_weighRow_93 : decode cX3_weighRow 93 = .ok (.iload 11, 2) := by decide +kernel
theorem dX3_weighRow_95 : decode cX3_weighRow 95 = .ok (.iadd, 1) := by decide +kernel
theorem dX3_weighRow_96 : decode cX3_weighRow 96 = .ok (.iaload, 1) := by decide +kernel
theorem dX3_weighRow_97 : decode cX3_weighRow 97 = .ok (.istore 14, 2) := by decide +kernel
theorem dX3_weighRow_99 : decode cX3_weighRow 99 = .ok (.iload 12, 2) := by decide +kernel
theorem dX3_weighRow_101 : decode cX3_weighRow 101 = .ok (.iload 13, 2) := by decide +kernel
theorem dX3_weighRow_103 : decode cX3_weighRow 103 = .ok (.iload 14, 2) := by decide +kernel
theorem dX3_weighRow_105 : decode cX3_weighRow 105 = .ok (.invokestatic 79, 3) := by decide +kernel
theorem dX3_weighRow_108 : decode cX3_weighRow 108 = .ok (.invokestatic 79, 3) := by decide +kernel
theorem dX3_weighRow_111 : decode cX3_weighRow 111 = .ok (.istore 15, 2) := by decide +kernel
theorem dX3_weighRow_113 : decode cX3_weighRow 113 = .ok (.iload 12, 2) := by decide +kernel
theorem dX3_weighRow_115 : decode cX3_weighRow 115 = .ok (.iload 15, 2) := by decide +kernel
theorem dX3_weighRow_117 : decode cX3_weighRow 117 = .ok (.if_icmp .ne 7, 3) := by decide +kernel
theorem dX3_weighRow_120 : decode cX3_weighRow 120 = .ok (.iconst 1, 1) := by decide +kernel
theorem dX3_weighRow_121 : decode cX3_weighRow 121 = .ok (.goto 4, 3) := by decide +kernel
theorem dX3_weighRow_124 : decode cX3_weighRow 124 = .ok (.iconst 0, 1) := by decide +kernel
theorem dX3_weighRow_125 : decode cX3_weighRow 125 = .ok (.iload 13, 2) := by decide +kernel
theorem dX3_weighRow_127 : decode cX3_weighRow 127 = .ok (.iload 15, 2) := by decide +kernel
theorem dX3_weighRow_129 : decode cX3_weighRow 129 = .ok (.if_icmp .ne 7, 3) := by decide +kernel
theorem dX3_weighRow_132 : decode cX3_weighRow 132 = .ok (.iconst 1, 1) := by decide +kernel
theorem dX3_weighRow_133 : decode cX3_weighRow 133 = .ok (.goto 4, 3) := by decide +kernel
theorem dX3_weighRow_136 : decode cX3_weighRow 136 = .ok (.iconst 0, 1) := by decide +kernel
theorem dX3_weighRow_137 : decode cX3_weighRow 137 = .ok (.iadd, 1) := by decide +kernel
theorem dX3_weighRow_138 : decode cX3_weighRow 138 = .ok (.iload 14, 2) := by decide +kernel
theorem dX3_weighRow_140 : decode cX3_weighRow 140 = .ok (.iload 15, 2) := by decide +kernel
theorem dX3_weighRow_142 : decode cX3_weighRow 142 = .ok (.if_icmp .ne 7, 3) := by decide +kernel
theorem dX3_weighRow_145 : decode cX3_weighRow 145 = .ok (.iconst 1, 1) := by decide +kernel
theorem dX3_weighRow_146 : decode cX3_weighRow 146 = .ok (.goto 4, 3) := by decide +kernel
theorem dX3_weighRow_149 : decode cX3_weighRow 149 = .ok (.iconst 0, 1) := by decide +kernel
theorem dX3_weighRow_150 : decode cX3_weighRow 150 = .ok (.iadd, 1) := by decide +kernel
theorem dX3_weighRow_151 : decode cX3_weighRow 151 = .ok (.istore 16, 2) := by decide +kernel
theorem dX3_weighRow_153 : decode cX3_weighRow 153 = .ok (.iload 15, 2) := by decide +kernel
theorem dX3_weighRow_155 : decode cX3_weighRow 155 = .ok (.ldc 53, 2) := by decide +kernel
theorem dX3_weighRow_157 : decode cX3_weighRow 157 = .ok (.if_icmp .eq 81, 3) := by decide +kernel
theorem dX3_weighRow_160 : decode cX3_weighRow 160 = .ok (.iload 16, 2) := by decide +kernel
theorem dX3_weighRow_162 : decode cX3_weighRow 162 = .ok (.iconst 1, 1) := by decide +kernel
theorem dX3_weighRow_163 : decode cX3_weighRow 163 = .ok (.if_icmp .ge 6, 3) := by decide +kernel
theorem dX3_weighRow_166 : decode cX3_weighRow 166 = .ok (.goto 72, 3) := by decide +kernel
theorem dX3_weighRow_169 : decode cX3_weighRow 169 = .ok (.aload_n 0, 1) := by decide +kernel
theorem dX3_weighRow_170 : decode cX3_weighRow 170 = .ok (.getfield 11, 3) := by decide +kernel
theorem dX3_weighRow_173 : decode cX3_weighRow 173 = .ok (.iload 11, 2) := by decide +kernel
theorem dX3_weighRow_175 : decode cX3_weighRow 175 = .ok (.iaload, 1) := by decide +kernel
theorem dX3_weighRow_176 : decode cX3_weighRow 176 = .ok (.bipush 60, 2) := by decide +kernel
theorem dX3_weighRow_178 : decode cX3_weighRow 178 = .ok (.iload 16, 2) := by decide +kernel
theorem dX3_weighRow_180 : decode cX3_weighRow 180 = .ok (.idiv, 1) := by decide +kernel
theorem dX3_weighRow_181 : decode cX3_weighRow 181 = .ok (.imul, 1) := by decide +kernel
theorem dX3_weighRow_182 : decode cX3_weighRow 182 = .ok (.istore 17, 2) := by decide +kernel
theorem dX3_weighRow_184 : decode cX3_weighRow 184 = .ok (.iload 8, 2) := by decide +kernel
theorem dX3_weighRow_186 : decode cX3_weighRow 186 = .ok (.iload 12, 2) := by decide +kernel
theorem dX3_weighRow_188 : decode cX3_weighRow 188 = .ok (.iload 15, 2) := by decide +kernel
theorem dX3_weighRow_190 : decode cX3_weighRow 190 = .ok (.if_icmp .ne 8, 3) := by decide +kernel
theorem dX3_weighRow_193 : decode cX3_weighRow 193 = .ok (.iload 17, 2) := by decide +kernel
theorem dX3_weighRow_195 : decode cX3_weighRow 195 = .ok (.goto 4, 3) := by decide +kernel
theorem dX3_weighRow_198 : decode cX3_weighRow 198 = .ok (.iconst 0, 1) := by decide +kernel
theorem dX3_weighRow_199 : decode cX3_weighRow 199 = .ok (.iadd, 1) := by decide +kernel
theorem dX3_weighRow_200 : decode cX3_weighRow 200 = .ok (.istore 8, 2) := by decide +kernel
theorem dX3_weighRow_202 : decode cX3_weighRow 202 = .ok (.iload 9, 2) := by decide +kernel
theorem dX3_weighRow_204 : decode cX3_weighRow 204 = .ok (.iload 13, 2) := by decide +kernel
theorem dX3_weighRow_206 : decode cX3_weighRow 206 = .ok (.iload 15, 2) := by decide +kernel
theorem dX3_weighRow_208 : decode cX3_weighRow 208 = .ok (.if_icmp .ne 8, 3) := by decide +kernel
theorem dX3_weighRow_211 : decode cX3_weighRow 211 = .ok (.iload 17, 2) := by decide +kernel
theorem dX3_weighRow_213 : decode cX3_weighRow 213 = .ok (.goto 4, 3) := by decide +kernel
theorem dX3_weighRow_216 : decode cX3_weighRow 216 = .ok (.iconst 0, 1) := by decide +kernel
theorem dX3_weighRow_217 : decode cX3_weighRow 217 = .ok (.iadd, 1) := by decide +kernel
theorem dX3_weighRow_218 : decode cX3_weighRow 218 = .ok (.istore 9, 2) := by decide +kernel
theorem dX3_weighRow_220 : decode cX3_weighRow 220 = .ok (.iload 10, 2) := by decide +kernel
theorem dX3_weighRow_222 : decode cX3_weighRow 222 = .ok (.iload 14, 2) := by decide +kernel
theorem dX3_weighRow_224 : decode cX3_weighRow 224 = .ok (.iload 15, 2) := by decide +kernel
theorem dX3_weighRow_226 : decode cX3_weighRow 226 = .ok (.if_icmp .ne 8, 3) := by decide +kernel
theorem dX3_weighRow_229 : decode cX3_weighRow 229 = .ok (.iload 17, 2) := by decide +kernel
theorem dX3_weighRow_231 : decode cX3_weighRow 231 = .ok (.goto 4, 3) := by decide +kernel
theorem dX3_weighRow_234 : decode cX3_weighRow 234 = .ok (.iconst 0, 1) := by decide +kernel
theorem dX3_weighRow_235 : decode cX3_weighRow 235 = .ok (.iadd, 1) := by decide +kernel
theorem dX3_weighRow_236 : decode cX3_weighRow 236 = .ok (.istore 10, 2) := by decide +kernel
theorem dX3_weighRow_238 : decode cX3_weighRow 238 = .ok (.iinc 11 1, 3) := by decide +kernel
theorem dX3_weighRow_241 : decode cX3_weighRow 241 = .ok (.goto (-185), 3) := by decide +kernel
theorem dX3_weighRow_244 : decode cX3_weighRow 244 = .ok (.aload_n 0, 1) := by decide +kernel
theorem dX3_weighRow_245 : decode cX3_weighRow 245 = .ok (.iload_n 1, 1) := by decide +kernel
theorem dX3_weighRow_246 : decode cX3_weighRow 246 = .ok (.iload 8, 2) := by decide +kernel
theorem dX3_weighRow_248 : decode cX3_weighRow 248 = .ok (.iconst 0, 1) := by decide +kernel
theorem dX3_weighRow_249 : decode cX3_weighRow 249 = .ok (.iload_n 3, 1) := by decide +kernel
theorem dX3_weighRow_250 : decode cX3_weighRow 250 = .ok (.iload 4, 2) := by decide +kernel
theorem dX3_weighRow_252 : decode cX3_weighRow 252 = .ok (.invokestatic 72, 3) := by decide +kernel
theorem dX3_weighRow_255 : decode cX3_weighRow 255 = .ok (.invokevirtual 85, 3) := by decide +kernel
theorem dX3_weighRow_258 : decode cX3_weighRow 258 = .ok (.aload_n 0, 1) := by decide +kernel
theorem dX3_weighRow_259 : decode cX3_weighRow 259 = .ok (.sipush 1000, 3) := by decide +kernel
theorem dX3_weighRow_262 : decode cX3_weighRow 262 = .ok (.iload_n 1, 1) := by decide +kernel
theorem dX3_weighRow_263 : decode cX3_weighRow 263 = .ok (.iadd, 1) := by decide +kernel
theorem dX3_weighRow_264 : decode cX3_weighRow 264 = .ok (.iload 9, 2) := by decide +kernel
theorem dX3_weighRow_266 : decode cX3_weighRow 266 = .ok (.iconst 1, 1) := by decide +kernel
theorem dX3_weighRow_267 : decode cX3_weighRow 267 = .ok (.iload_n 2, 1) := by decide +kernel
theorem dX3_weighRow_268 : decode cX3_weighRow 268 = .ok (.iload 4, 2) := by decide +kernel
theorem dX3_weighRow_270 : decode cX3_weighRow 270 = .ok (.invokestatic 72, 3) := by decide +kernel
theorem dX3_weighRow_273 : decode cX3_weighRow 273 = .ok (.invokevirtual 85, 3) := by decide +kernel
theorem dX3_weighRow_276 : decode cX3_weighRow 276 = .ok (.aload_n 0, 1) := by decide +kernel
theorem dX3_weighRow_277 : decode cX3_weighRow 277 = .ok (.sipush 2000, 3) := by decide +kernel
theorem dX3_weighRow_280 : decode cX3_weighRow 280 = .ok (.iload_n 1, 1) := by decide +kernel
theorem dX3_weighRow_281 : decode cX3_weighRow 281 = .ok (.iadd, 1) := by decide +kernel
theorem dX3_weighRow_282 : decode cX3_weighRow 282 = .ok (.iload 10, 2) := by decide +kernel
theorem dX3_weighRow_284 : decode cX3_weighRow 284 = .ok (.iconst 2, 1) := by decide +kernel
theorem dX3_weighRow_285 : decode cX3_weighRow 285 = .ok (.iload_n 2, 1) := by decide +kernel
theorem dX3_weighRow_286 : decode cX3_weighRow 286 = .ok (.iload_n 3, 1) := by decide +kernel
theorem dX3_weighRow_287 : decode cX3_weighRow 287 = .ok (.invokestatic 72, 3) := by decide +kernel
theorem dX3_weighRow_290 : decode cX3_weighRow 290 = .ok (.invokevirtual 85, 3) := by decide +kernel
theorem dX3_weighRow_293 : decode cX3_weighRow 293 = .ok (.return_, 1) := by decide +kernel
theorem dX3_keep_0 : decode cX3_keep 0 = .ok (.aload_n 0, 1) := by decide +kernel
theorem dX3_keep_1 : decode cX3_keep 1 = .ok (.getfield 20, 3) := by decide +kernel
theorem dX3_keep_4 : decode cX3_keep 4 = .ok (.iload_n 1, 1) := by decide +kernel
theorem dX3_keep_5 : decode cX3_keep 5 = .ok (.iload_n 2, 1) := by decide +kernel
theorem dX3_keep_6 : decode cX3_keep 6 = .ok (.iastore, 1) := by decide +kernel
theorem dX3_keep_7 : decode cX3_keep 7 = .ok (.aload_n 0, 1) := by decide +kernel
theorem dX3_keep_8 : decode cX3_keep 8 = .ok (.getfield 23, 3) := by decide +kernel
theorem dX3_keep_11 : decode cX3_keep 11 = .ok (.iload_n 3, 1) := by decide +kernel
theorem dX3_keep_12 : decode cX3_keep 12 = .ok (.aload_n 0, 1) := by decide +kernel
theorem dX3_keep_13 : decode cX3_keep 13 = .ok (.getfield 23, 3) := by decide +kernel
theorem dX3_keep_16 : decode cX3_keep 16 = .ok (.iload_n 3, 1) := by decide +kernel
theorem dX3_keep_17 : decode cX3_keep 17 = .ok (.iaload, 1) := by decide +kernel
theorem dX3_keep_18 : decode cX3_keep 18 = .ok (.iload_n 2, 1) := by decide +kernel
theorem dX3_keep_19 : decode cX3_keep 19 = .ok (.invokestatic 89, 3) := by decide +kernel
theorem dX3_keep_22 : decode cX3_keep 22 = .ok (.iastore, 1) := by decide +kernel
theorem dX3_keep_23 : decode cX3_keep 23 = .ok (.return_, 1) := by decide +kernel
set_option maxRecDepth 20000 in
theorem ggX3_isRest_X3_pair : GoodIn wsX3_isRest wsX3_pair := goodIn_r _ [6] (by decide +kernel) (by decide +kernel)
set_option maxRecDepth 20000 in
theorem gX3_isRest_X3_pair : GoodIn wsX3_isRest (va_wsS RX3 72 yX3_pair wsX3_pair) := goodIn_app (goodIn_of _ (by decide +kernel)) ggX3_isRest_X3_pair
theorem dX3_isRest_0 : decode cX3_isRest 0 = .ok (.iload_n 1, 1) := by decide +kernel
theorem dX3_isRest_1 : decode cX3_isRest 1 = .ok (.bipush 100, 2) := by decide +kernel
theorem dX3_isRest_3 : decode cX3_isRest 3 = .ok (.idiv, 1) := by decide +kernel
theorem dX3_isRest_4 : decode cX3_isRest 4 = .ok (.istore_n 2, 1) := by decide +kernel
theorem dX3_isRest_5 : decode cX3_isRest 5 = .ok (.iload_n 1, 1) := by decide +kernel
theorem dX3_isRest_6 : decode cX3_isRest 6 = .ok (.bipush 10, 2) := by decide +kernel
theorem dX3_isRest_8 : decode cX3_isRest 8 = .ok (.idiv, 1) := by decide +kernel
theorem dX3_isRest_9 : decode cX3_isRest 9 = .ok (.bipush 10, 2) := by decide +kernel
theorem dX3_isRest_11 : decode cX3_isRest 11 = .ok (.irem, 1) := by decide +kernel
theorem dX3_isRest_12 : decode cX3_isRest 12 = .ok (.istore_n 3, 1) := by decide +kernel
theorem dX3_isRest_13 : decode cX3_isRest 13 = .ok (.iload_n 1, 1) := by decide +kernel
theorem dX3_isRest_14 : decode cX3_isRest 14 = .ok (.bipush 10, 2) := by decide +kernel
theorem dX3_isRest_16 : decode cX3_isRest 16 = .ok (.irem, 1) := by decide +kernel
theorem dX3_isRest_17 : decode cX3_isRest 17 = .ok (.istore 4, 2) := by decide +kernel
theorem dX3_isRest_19 : decode cX3_isRest 19 = .ok (.aload_n 0, 1) := by decide +kernel
theorem dX3_isRest_20 : decode cX3_isRest 20 = .ok (.getfield 20, 3) := by decide +kernel
theorem dX3_isRest_23 : decode cX3_isRest 23 = .ok (.iload_n 1, 1) := by decide +kernel
theorem dX3_isRest_24 : decode cX3_isRest 24 = .ok (.iaload, 1) := by decide +kernel
theorem dX3_isRest_25 : decode cX3_isRest 25 = .ok (.aload_n 0, 1) := by decide +kernel
theorem dX3_isRest_26 : decode cX3_isRest 26 = .ok (.getfield 23, 3) := by decide +kernel
theorem dX3_isRest_29 : decode cX3_isRest 29 = .ok (.iconst 0, 1) := by decide +kernel
theorem dX3_isRest_30 : decode cX3_isRest 30 = .ok (.iload_n 3, 1) := by decide +kernel
theorem dX3_isRest_31 : decode cX3_isRest 31 = .ok (.iload 4, 2) := by decide +kernel
theorem dX3_isRest_33 : decode cX3_isRest 33 = .ok (.invokestatic 72, 3) := by decide +kernel
theorem dX3_isRest_36 : decode cX3_isRest 36 = .ok (.iaload, 1) := by decide +kernel
theorem dX3_isRest_37 : decode cX3_isRest 37 = .ok (.if_icmp .ne 56, 3) := by decide +kernel
theorem dX3_isRest_40 : decode cX3_isRest 40 = .ok (.aload_n 0, 1) := by decide +kernel
theorem dX3_isRest_41 : decode cX3_isRest 41 = .ok (.getfield 20, 3) := by decide +kernel
theorem dX3_isRest_44 : decode cX3_isRest 44 = .ok (.sipush 1000, 3) := by decide +kernel
theorem dX3_isRest_47 : decode cX3_isRest 47 = .ok (.iload_n 1, 1) := by decide +kernel
theorem dX3_isRest_48 : decode cX3_isRest 48 = .ok (.iadd, 1) := by decide +kernel
theorem dX3_isRest_49 : decode cX3_isRest 49 = .ok (.iaload, 1) := by decide +kernel
theorem dX3_isRest_50 : decode cX3_isRest 50 = .ok (.aload_n 0, 1) := by decide +kernel
theorem dX3_isRest_51 : decode cX3_isRest 51 = .ok (.getfield 23, 3) := by decide +kernel
theorem dX3_isRest_54 : decode cX3_isRest 54 = .ok (.iconst 1, 1) := by decide +kernel
theorem dX3_isRest_55 : decode cX3_isRest 55 = .ok (.iload_n 2, 1) := by decide +kernel
theorem dX3_isRest_56 : decode cX3_isRest 56 = .ok (.iload 4, 2) := by decide +kernel
theorem dX3_isRest_58 : decode cX3_isRest 58 = .ok (.invokestatic 72, 3) := by decide +kernel
theorem dX3_isRest_61 : decode cX3_isRest 61 = .ok (.iaload, 1) := by decide +kernel
theorem dX3_isRest_62 : decode cX3_isRest 62 = .ok (.if_icmp .ne 31, 3) := by decide +kernel
theorem dX3_isRest_65 : decode cX3_isRest 65 = .ok (.aload_n 0, 1) := by decide +kernel
theorem dX3_isRest_66 : decode cX3_isRest 66 = .ok (.getfield 20, 3) := by decide +kernel
theorem dX3_isRest_69 : decode cX3_isRest 69 = .ok (.sipush 2000, 3) := by decide +kernel
theorem dX3_isRest_72 : decode cX3_isRest 72 = .ok (.iload_n 1, 1) := by decide +kernel
theorem dX3_isRest_73 : decode cX3_isRest 73 = .ok (.iadd, 1) := by decide +kernel
theorem dX3_isRest_74 : decode cX3_isRest 74 = .ok (.iaload, 1) := by decide +kernel
theorem dX3_isRest_75 : decode cX3_isRest 75 = .ok (.aload_n 0, 1) := by decide +kernel
theorem dX3_isRest_76 : decode cX3_isRest 76 = .ok (.getfield 23, 3) := by decide +kernel
theorem dX3_isRest_79 : decode cX3_isRest 79 = .ok (.iconst 2, 1) := by decide +kernel
theorem dX3_isRest_80 : decode cX3_isRest 80 = .ok (.iload_n 2, 1) := by decide +kernel
theorem dX3_isRest_81 : decode cX3_isRest 81 = .ok (.iload_n 3, 1) := by decide +kernel
theorem dX3_isRest_82 : decode cX3_isRest 82 = .ok (.invokestatic 72, 3) := by decide +kernel
theorem dX3_isRest_85 : decode cX3_isRest 85 = .ok (.iaload, 1) := by decide +kernel
theorem dX3_isRest_86 : decode cX3_isRest 86 = .ok (.if_icmp .ne 7, 3) := by decide +kernel
theorem dX3_isRest_89 : decode cX3_isRest 89 = .ok (.iconst 1, 1) := by decide +kernel
theorem dX3_isRest_90 : decode cX3_isRest 90 = .ok (.goto 4, 3) := by decide +kernel
theorem dX3_isRest_93 : decode cX3_isRest 93 = .ok (.iconst 0, 1) := by decide +kernel
theorem dX3_isRest_94 : decode cX3_isRest 94 = .ok (.ireturn, 1) := by decide +kernel
set_option maxRecDepth 20000 in
theorem ggX3_howMany_X3_isRest : GoodIn wsX3_howMany wsX3_isRest := goodIn_r _ [6, 7, 8, 9, 10, 5, 11, 12, 13, 14, 15, 16] (by decide +kernel) (by decide +kernel)
set_option maxRecDepth 20000 in
theorem gX3_howMany_X3_isRest : GoodIn wsX3_howMany (wsV RX3 92 RX3 yX3_isRest wsX3_isRest) := goodIn_app (goodIn_of _ (by decide +kernel)) ggX3_howMany_X3_isRest
theorem dX3_howMany_0 : decode cX3_howMany 0 = .ok (.iconst 0, 1) := by decide +kernel
theorem dX3_howMany_1 : decode cX3_howMany 1 = .ok (.istore_n 1, 1) := by decide +kernel
theorem dX3_howMany_2 : decode cX3_howMany 2 = .ok (.iconst 0, 1) := by decide +kernel
theorem dX3_howMany_3 : decode cX3_howMany 3 = .ok (.istore_n 2, 1) := by decide +kernel
theorem dX3_howMany_4 : decode cX3_howMany 4 = .ok (.iload_n 2, 1) := by decide +kernel
theorem dX3_howMany_5 : decode cX3_howMany 5 = .ok (.aload_n 0, 1) := by decide +kernel
theorem dX3_howMany_6 : decode cX3_howMany 6 = .ok (.getfield 45, 3) := by decide +kernel
theorem dX3_howMany_9 : decode cX3_howMany 9 = .ok (.if_icmp .ge 32, 3) := by decide +kernel
theorem dX3_howMany_12 : decode cX3_howMany 12 = .ok (.iload_n 2, 1) := by decide +kernel
theorem dX3_howMany_13 : decode cX3_howMany 13 = .ok (.sipush 1000, 3) := by decide +kernel
theorem dX3_howMany_16 : decode cX3_howMany 16 = .ok (.if_icmp .ge 25, 3) := by decide +kernel
theorem dX3_howMany_19 : decode cX3_howMany 19 = .ok (.iload_n 1, 1) := by decide +kernel
theorem dX3_howMany_20 : decode cX3_howMany 20 = .ok (.aload_n 0, 1) := by decide +kernel
theorem dX3_howMany_21 : decode cX3_howMany 21 = .ok (.iload_n 2, 1) := by decide +kernel
theorem dX3_howMany_22 : decode cX3_howMany 22 = .ok (.invokevirtual 92, 3) := by decide +kernel
theorem dX3_howMany_25 : decode cX3_howMany 25 = .ok (.ifCond .eq 7, 3) := by decide +kernel
theorem dX3_howMany_28 : decode cX3_howMany 28 = .ok (.iconst 1, 1) := by decide +kernel
theorem dX3_howMany_29 : decode cX3_howMany 29 = .ok (.goto 4, 3) := by decide +kernel
theorem dX3_howMany_32 : decode cX3_howMany 32 = .ok (.iconst 0, 1) := by decide +kernel
theorem dX3_howMany_33 : decode cX3_howMany 33 = .ok (.iadd, 1) := by decide +kernel
theorem dX3_howMany_34 : decode cX3_howMany 34 = .ok (.istore_n 1, 1) := by decide +kernel
theorem dX3_howMany_35 : decode cX3_howMany 35 = .ok (.iinc 2 1, 3) := by decide +kernel
theorem dX3_howMany_38 : decode cX3_howMany 38 = .ok (.goto (-34), 3) := by decide +kernel
theorem dX3_howMany_41 : decode cX3_howMany 41 = .ok (.iload_n 1, 1) := by decide +kernel
theorem dX3_howMany_42 : decode cX3_howMany 42 = .ok (.ireturn, 1) := by decide +kernel
set_option maxRecDepth 20000 in
theorem ggX3_row_X3_isRest : GoodIn wsX3_row wsX3_isRest := goodIn_r _ [6, 7, 8, 9, 10, 5, 11, 12, 13, 14, 15, 16] (by decide +kernel) (by decide +kernel)
set_option maxRecDepth 20000 in
theorem gX3_row_X3_isRest : GoodIn wsX3_row (wsV RX3 92 RX3 yX3_isRest wsX3_isRest) := goodIn_app (goodIn_of _ (by decide +kernel)) ggX3_row_X3_isRest
theorem dX3_row_0 : decode cX3_row 0 = .ok (.iconst 0, 1) := by decide +kernel
theorem dX3_row_1 : decode cX3_row 1 = .ok (.istore_n 2, 1) := by decide +kernel
theorem dX3_row_2 : decode cX3_row 2 = .ok (.iconst 0, 1) := by decide +kernel
theorem dX3_row_3 : decode cX3_row 3 = .ok (.istore_n 3, 1) := by decide +kernel
theorem dX3_row_4 : decode cX3_row 4 = .ok (.iload_n 3, 1) := by decide +kernel
theorem dX3_row_5 : decode cX3_row 5 = .ok (.aload_n 0, 1) := by decide +kernel
theorem dX3_row_6 : decode cX3_row 6 = .ok (.getfield 45, 3) := by decide +kernel
theorem dX3_row_9 : decode cX3_row 9 = .ok (.if_icmp .ge 34, 3) := by decide +kernel
theorem dX3_row_12 : decode cX3_row 12 = .ok (.iload_n 3, 1) := by decide +kernel
theorem dX3_row_13 : decode cX3_row 13 = .ok (.sipush 1000, 3) := by decide +kernel
theorem dX3_row_16 : decode cX3_row 16 = .ok (.if_icmp .ge 27, 3) := by decide +kernel
theorem dX3_row_19 : decode cX3_row 19 = .ok (.aload_n 0, 1) := by decide +kernel
theorem dX3_row_20 : decode cX3_row 20 = .ok (.iload_n 3, 1) := by decide +kernel
theorem dX3_row_21 : decode cX3_row 21 = .ok (.invokevirtual 92, 3) := by decide +kernel
theorem dX3_row_24 : decode cX3_row 24 = .ok (.ifCond .eq 13, 3) := by decide +kernel
theorem dX3_row_27 : decode cX3_row 27 = .ok (.iload_n 2, 1) := by decide +kernel
theorem dX3_row_28 : decode cX3_row 28 = .ok (.iload_n 1, 1) := by decide +kernel
theorem dX3_row_29 : decode cX3_row 29 = .ok (.if_icmp .ne 5, 3) := by decide +kernel
theorem dX3_row_32 : decode cX3_row 32 = .ok (.iload_n 3, 1) := by decide +kernel
theorem dX3_row_33 : decode cX3_row 33 = .ok (.ireturn, 1) := by decide +kernel
theorem dX3_row_34 : decode cX3_row 34 = .ok (.iinc 2 1, 3) := by decide +kernel
theorem dX3_row_37 : decode cX3_row 37 = .ok (.iinc 3 1, 3) := by decide +kernel
theorem dX3_row_40 : decode cX3_row 40 = .ok (.goto (-36), 3) := by decide +kernel
theorem dX3_row_43 : decode cX3_row 43 = .ok (.bipush (-6), 2) := by decide +kernel
theorem dX3_row_45 : decode cX3_row 45 = .ok (.ireturn, 1) := by decide +kernel
set_option maxRecDepth 20000 in
theorem ggX4_init_X0_init : GoodIn wsX4_init wsX0_init := goodIn_r _ [24, 25, 2, 3, 26, 27, 28, 29, 30, 31, 32, 33, 34, 35, 36, 37, 55, 56, 57, 58, 59, 60, 61, 62, 63, 64, 65, 66] (by decide +kernel) (by decide +kernel)
set_option maxRecDepth 20000 in
theorem gX4_init_X0_init : GoodIn wsX4_init (wsX0_init) := ggX4_init_X0_init
set_option maxRecDepth 20000 in
theorem ggX4_init_X2_init : GoodIn wsX4_init wsX2_init := goodIn_r _ [39, 40, 2, 3, 28, 41, 73, 74] (by decide +kernel) (by decide +kernel)
set_option maxRecDepth 20000 in
theorem gX4_init_X2_init_n25 : GoodIn wsX4_init (wsX2_init) := ggX4_init_X2_init
set_option maxRecDepth 20000 in
theorem ggX4_init_X1_init : GoodIn wsX4_init wsX1_init := goodIn_r _ [44, 45, 2, 3, 28, 46, 47, 75, 76, 77, 78, 79] (by decide +kernel) (by decide +kernel)
set_option maxRecDepth 20000 in
theorem gX4_init_X1_init : GoodIn wsX4_init (wsX1_init) := ggX4_init_X1_init
set_option maxRecDepth 20000 in
theorem ggX4_init_X3_init : GoodIn wsX4_init wsX3_init := goodIn_r _ [49, 50, 2, 3, 28, 51, 52, 53, 54, 80, 81, 82, 83, 84] (by decide +kernel) (by decide +kernel)
set_option maxRecDepth 20000 in
theorem gX4_init_X3_init_n41 : GoodIn wsX4_init (wsX3_init) := ggX4_init_X3_init
theorem dX4_init_0 : decode cX4_init 0 = .ok (.aload_n 0, 1) := by decide +kernel
theorem dX4_init_1 : decode cX4_init 1 = .ok (.invokespecial 1, 3) := by decide +kernel
theorem dX4_init_4 : decode cX4_init 4 = .ok (.aload_n 0, 1) := by decide +kernel
theorem dX4_init_5 : decode cX4_init 5 = .ok (.new 7, 3) := by decide +kernel
theorem dX4_init_8 : decode cX4_init 8 = .ok (.dup, 1) := by decide +kernel
theorem dX4_init_9 : decode cX4_init 9 = .ok (.invokespecial 9, 3) := by decide +kernel
theorem dX4_init_12 : decode cX4_init 12 = .ok (.putfield 10, 3) := by decide +kernel
theorem dX4_init_15 : decode cX4_init 15 = .ok (.aload_n 0, 1) := by decide +kernel
theorem dX4_init_16 : decode cX4_init 16 = .ok (.new 7, 3) := by decide +kernel
theorem dX4_init_19 : decode cX4_init 19 = .ok (.dup, 1) := by decide +kernel
theorem dX4_init_20 : decode cX4_init 20 = .ok (.invokespecial 9, 3) := by decide +kernel
theorem dX4_init_23 : decode cX4_init 23 = .ok (.putfield 16, 3) := by decide +kernel
theorem dX4_init_26 : decode cX4_init 26 = .ok (.aload_n 0, 1) := by decide +kernel
theorem dX4_init_27 : decode cX4_init 27 = .ok (.iconst 2, 1) := by decide +kernel
theorem dX4_init_28 : decode cX4_init 28 = .ok (.anewarray 7, 3) := by decide +kernel
theorem dX4_init_31 : decode cX4_init 31 = .ok (.putfield 19, 3) := by decide +kernel
theorem dX4_init_34 : decode cX4_init 34 = .ok (.aload_n 0, 1) := by decide +kernel
theorem dX4_init_35 : decode cX4_init 35 = .ok (.new 23, 3) := by decide +kernel
theorem dX4_init_38 : decode cX4_init 38 = .ok (.dup, 1) := by decide +kernel
theorem dX4_init_39 : decode cX4_init 39 = .ok (.invokespecial 25, 3) := by decide +kernel
theorem dX4_init_42 : decode cX4_init 42 = .ok (.putfield 26, 3) := by decide +kernel
theorem dX4_init_45 : decode cX4_init 45 = .ok (.aload_n 0, 1) := by decide +kernel
theorem dX4_init_46 : decode cX4_init 46 = .ok (.new 30, 3) := by decide +kernel
theorem dX4_init_49 : decode cX4_init 49 = .ok (.dup, 1) := by decide +kernel
theorem dX4_init_50 : decode cX4_init 50 = .ok (.aload_n 0, 1) := by decide +kernel
theorem dX4_init_51 : decode cX4_init 51 = .ok (.getfield 10, 3) := by decide +kernel
theorem dX4_init_54 : decode cX4_init 54 = .ok (.invokespecial 32, 3) := by decide +kernel
theorem dX4_init_57 : decode cX4_init 57 = .ok (.putfield 35, 3) := by decide +kernel
theorem dX4_init_60 : decode cX4_init 60 = .ok (.aload_n 0, 1) := by decide +kernel
theorem dX4_init_61 : decode cX4_init 61 = .ok (.new 39, 3) := by decide +kernel
theorem dX4_init_64 : decode cX4_init 64 = .ok (.dup, 1) := by decide +kernel
theorem dX4_init_65 : decode cX4_init 65 = .ok (.invokespecial 41, 3) := by decide +kernel
theorem dX4_init_68 : decode cX4_init 68 = .ok (.putfield 42, 3) := by decide +kernel
theorem dX4_init_71 : decode cX4_init 71 = .ok (.return_, 1) := by decide +kernel
set_option maxRecDepth 20000 in
theorem ggX4_stand_X4_within : GoodIn wsX4_stand wsX4_within := goodIn_r _ [8] (by decide +kernel) (by decide +kernel)
set_option maxRecDepth 20000 in
theorem gX4_stand_X4_within : GoodIn wsX4_stand (va_wsS RX4 46 yX4_within wsX4_within) := goodIn_app (goodIn_of _ (by decide +kernel)) ggX4_stand_X4_within
set_option maxRecDepth 20000 in
theorem ggX4_stand_X4_isPlace : GoodIn wsX4_stand wsX4_isPlace := goodIn_r _ [11, 5, 6, 7, 8] (by decide +kernel) (by decide +kernel)
set_option maxRecDepth 20000 in
theorem gX4_stand_X4_isPlace : GoodIn wsX4_stand (va_wsS RX4 50 yX4_isPlace wsX4_isPlace) := goodIn_app (goodIn_of _ (by decide +kernel)) ggX4_stand_X4_isPlace
set_option maxRecDepth 20000 in
theorem ggX4_stand_X0_put : GoodIn wsX4_stand wsX0_put := goodIn_r _ [16, 17, 18, 6, 7, 8, 35, 36, 37, 38, 39, 40, 41, 42, 43, 44, 45, 46] (by decide +kernel) (by decide +kernel)
set_option maxRecDepth 20000 in
theorem gX4_stand_X0_put : GoodIn wsX4_stand (wsV RX4 54 RX0 yX0_put wsX0_put) := goodIn_app (goodIn_of _ (by decide +kernel)) ggX4_stand_X0_put
set_option maxRecDepth 20000 in
theorem ggX4_stand_X4_withBit : GoodIn wsX4_stand wsX4_withBit := goodIn_r _ [21] (by decide +kernel) (by decide +kernel)
set_option maxRecDepth 20000 in
theorem gX4_stand_X4_withBit : GoodIn wsX4_stand (va_wsS RX4 62 yX4_withBit wsX4_withBit) := goodIn_app (goodIn_of _ (by decide +kernel)) ggX4_stand_X4_withBit
set_option maxRecDepth 20000 in
theorem ggX4_stand_J6_bitCount_0f7a4 : GoodIn wsX4_stand wsJ6_bitCount_0f7a4 := goodIn_r _ [25, 26, 27, 28] (by decide +kernel) (by decide +kernel)
set_option maxRecDepth 20000 in
theorem gX4_stand_J6_bitCount_0f7a4 : GoodIn wsX4_stand (va_wsS RX4 72 yJ6_bitCount_0f7a4 wsJ6_bitCount_0f7a4) := goodIn_app (goodIn_of _ (by decide +kernel)) ggX4_stand_J6_bitCount_0f7a4
theorem dX4_stand_0 : decode cX4_stand 0 = .ok (.iload_n 1, 1) := by decide +kernel
theorem dX4_stand_1 : decode cX4_stand 1 = .ok (.iconst 0, 1) := by decide +kernel
theorem dX4_stand_2 : decode cX4_stand 2 = .ok (.iconst 5, 1) := by decide +kernel
theorem dX4_stand_3 : decode cX4_stand 3 = .ok (.invokestatic 46, 3) := by decide +kernel
theorem dX4_stand_6 : decode cX4_stand 6 = .ok (.ifCond .eq 10, 3) := by decide +kernel
theorem dX4_stand_9 : decode cX4_stand 9 = .ok (.iload_n 2, 1) := by decide +kernel
theorem dX4_stand_10 : decode cX4_stand 10 = .ok (.invokestatic 50, 3) := by decide +kernel
theorem dX4_stand_13 : decode cX4_stand 13 = .ok (.ifCond .ne 5, 3) := by decide +kernel
theorem dX4_stand_16 : decode cX4_stand 16 = .ok (.iconst (-1), 1) := by decide +kernel
theorem dX4_stand_17 : decode cX4_stand 17 = .ok (.ireturn, 1) := by decide +kernel
theorem dX4_stand_18 : decode cX4_stand 18 = .ok (.iload_n 3, 1) := by decide +kernel
theorem dX4_stand_19 : decode cX4_stand 19 = .ok (.iconst 0, 1) := by decide +kernel
theorem dX4_stand_20 : decode cX4_stand 20 = .ok (.bipush 9, 2) := by decide +kernel
theorem dX4_stand_22 : decode cX4_stand 22 = .ok (.invokestatic 46, 3) := by decide +kernel
theorem dX4_stand_25 : decode cX4_stand 25 = .ok (.ifCond .eq 13, 3) := by decide +kernel
theorem dX4_stand_28 : decode cX4_stand 28 = .ok (.iload 4, 2) := by decide +kernel
theorem dX4_stand_30 : decode cX4_stand 30 = .ok (.iconst 0, 1) := by decide +kernel
theorem dX4_stand_31 : decode cX4_stand 31 = .ok (.iconst 1, 1) := by decide +kernel
theorem dX4_stand_32 : decode cX4_stand 32 = .ok (.invokestatic 46, 3) := by decide +kernel
theorem dX4_stand_35 : decode cX4_stand 35 = .ok (.ifCond .ne 6, 3) := by decide +kernel
theorem dX4_stand_38 : decode cX4_stand 38 = .ok (.bipush (-2), 2) := by decide +kernel
theorem dX4_stand_40 : decode cX4_stand 40 = .ok (.ireturn, 1) := by decide +kernel
theorem dX4_stand_41 : decode cX4_stand 41 = .ok (.aload_n 0, 1) := by decide +kernel
theorem dX4_stand_42 : decode cX4_stand 42 = .ok (.getfield 10, 3) := by decide +kernel
theorem dX4_stand_45 : decode cX4_stand 45 = .ok (.iload_n 1, 1) := by decide +kernel
theorem dX4_stand_46 : decode cX4_stand 46 = .ok (.iload_n 2, 1) := by decide +kernel
theorem dX4_stand_47 : decode cX4_stand 47 = .ok (.iload_n 3, 1) := by decide +kernel
theorem dX4_stand_48 : decode cX4_stand 48 = .ok (.invokevirtual 54, 3) := by decide +kernel
theorem dX4_stand_51 : decode cX4_stand 51 = .ok (.aload_n 0, 1) := by decide +kernel
theorem dX4_stand_52 : decode cX4_stand 52 = .ok (.getfield 10, 3) := by decide +kernel
theorem dX4_stand_55 : decode cX4_stand 55 = .ok (.aload_n 0, 1) := by decide +kernel
theorem dX4_stand_56 : decode cX4_stand 56 = .ok (.getfield 10, 3) := by decide +kernel
theorem dX4_stand_59 : decode cX4_stand 59 = .ok (.getfield 58, 3) := by decide +kernel
theorem dX4_stand_62 : decode cX4_stand 62 = .ok (.iload_n 1, 1) := by decide +kernel
theorem dX4_stand_63 : decode cX4_stand 63 = .ok (.iconst 1, 1) := by decide +kernel
theorem dX4_stand_64 : decode cX4_stand 64 = .ok (.invokestatic 62, 3) := by decide +kernel
theorem dX4_stand_67 : decode cX4_stand 67 = .ok (.putfield 58, 3) := by decide +kernel
theorem dX4_stand_70 : decode cX4_stand 70 = .ok (.aload_n 0, 1) := by decide +kernel
theorem dX4_stand_71 : decode cX4_stand 71 = .ok (.getfield 10, 3) := by decide +kernel
theorem dX4_stand_74 : decode cX4_stand 74 = .ok (.aload_n 0, 1) := by decide +kernel
theorem dX4_stand_75 : decode cX4_stand 75 = .ok (.getfield 10, 3) := by decide +kernel
theorem dX4_stand_78 : decode cX4_stand 78 = .ok (.getfield 66, 3) := by decide +kernel
theorem dX4_stand_81 : decode cX4_stand 81 = .ok (.iload_n 1, 1) := by decide +kernel
theorem dX4_stand_82 : decode cX4_stand 82 = .ok (.iload 4, 2) := by decide +kernel
theorem dX4_stand_84 : decode cX4_stand 84 = .ok (.iconst 1, 1) := by decide +kernel
theorem dX4_stand_85 : decode cX4_stand 85 = .ok (.if_icmp .ne 7, 3) := by decide +kernel
theorem dX4_stand_88 : decode cX4_stand 88 = .ok (.iconst 1, 1) := by decide +kernel
theorem dX4_stand_89 : decode cX4_stand 89 = .ok (.goto 4, 3) := by decide +kernel
theorem dX4_stand_92 : decode cX4_stand 92 = .ok (.iconst 0, 1) := by decide +kernel
theorem dX4_stand_93 : decode cX4_stand 93 = .ok (.invokestatic 62, 3) := by decide +kernel
theorem dX4_stand_96 : decode cX4_stand 96 = .ok (.putfield 66, 3) := by decide +kernel
theorem dX4_stand_99 : decode cX4_stand 99 = .ok (.aload_n 0, 1) := by decide +kernel
theorem dX4_stand_100 : decode cX4_stand 100 = .ok (.getfield 10, 3) := by decide +kernel
theorem dX4_stand_103 : decode cX4_stand 103 = .ok (.aload_n 0, 1) := by decide +kernel
theorem dX4_stand_104 : decode cX4_stand 104 = .ok (.getfield 10, 3) := by decide +kernel
theorem dX4_stand_107 : decode cX4_stand 107 = .ok (.getfield 69, 3) := by decide +kernel
theorem dX4_stand_110 : decode cX4_stand 110 = .ok (.iload_n 1, 1) := by decide +kernel
theorem dX4_stand_111 : decode cX4_stand 111 = .ok (.iload 5, 2) := by decide +kernel
theorem dX4_stand_113 : decode cX4_stand 113 = .ok (.invokestatic 62, 3) := by decide +kernel
theorem dX4_stand_116 : decode cX4_stand 116 = .ok (.putfield 69, 3) := by decide +kernel
theorem dX4_stand_119 : decode cX4_stand 119 = .ok (.aload_n 0, 1) := by decide +kernel
theorem dX4_stand_120 : decode cX4_stand 120 = .ok (.getfield 10, 3) := by decide +kernel
theorem dX4_stand_123 : decode cX4_stand 123 = .ok (.getfield 58, 3) := by decide +kernel
theorem dX4_stand_126 : decode cX4_stand 126 = .ok (.invokestatic 72, 3) := by decide +kernel
theorem dX4_stand_129 : decode cX4_stand 129 = .ok (.ireturn, 1) := by decide +kernel
set_option maxRecDepth 20000 in
theorem ggX4_leave_X0_isThere : GoodIn wsX4_leave wsX0_isThere := goodIn_r _ [7, 8, 9, 10, 11, 12, 13, 30, 31, 32, 33, 34, 35, 36, 37, 38, 39, 40, 41] (by decide +kernel) (by decide +kernel)
set_option maxRecDepth 20000 in
theorem gX4_leave_X0_isThere : GoodIn wsX4_leave (wsV RX4 78 RX0 yX0_isThere wsX0_isThere) := goodIn_app (goodIn_of _ (by decide +kernel)) ggX4_leave_X0_isThere
set_option maxRecDepth 20000 in
theorem ggX4_leave_X4_withBit : GoodIn wsX4_leave wsX4_withBit := goodIn_r _ [16] (by decide +kernel) (by decide +kernel)
set_option maxRecDepth 20000 in
theorem gX4_leave_X4_withBit : GoodIn wsX4_leave (va_wsS RX4 62 yX4_withBit wsX4_withBit) := goodIn_app (goodIn_of _ (by decide +kernel)) ggX4_leave_X4_withBit
set_option maxRecDepth 20000 in
theorem ggX4_leave_J6_bitCount_0f7a4 : GoodIn wsX4_leave wsJ6_bitCount_0f7a4 := goodIn_r _ [20, 21, 22, 23] (by decide +kernel) (by decide +kernel)
set_option maxRecDepth 20000 in
theorem gX4_leave_J6_bitCount_0f7a4 : GoodIn wsX4_leave (va_wsS RX4 72 yJ6_bitCount_0f7a4 wsJ6_bitCount_0f7a4) := goodIn_app (goodIn_of _ (by decide +kernel)) ggX4_leave_J6_bitCount_0f7a4
theorem dX4_leave_0 : decode cX4_leave 0 = .ok (.aload_n 0, 1) := by decide +kernel
theorem dX4_leave_1 : decode cX4_leave 1 = .ok (.getfield 10, 3) := by decide +kernel
theorem dX4_leave_4 : decode cX4_leave 4 = .ok (.iload_n 1, 1) := by decide +kernel
theorem dX4_leave_5 : decode cX4_leave 5 = .ok (.invokevirtual 78, 3) := by decide +kernel
theorem dX4_leave_8 : decode cX4_leave 8 = .ok (.ifCond .ne 5, 3) := by decide +kernel
theorem dX4_leave_11 : decode cX4_leave 11 = .ok (.iconst (-1), 1) := by decide +kernel
theorem dX4_leave_12 : decode cX4_leave 12 = .ok (.ireturn, 1) := by decide +kernel
theorem dX4_leave_13 : decode cX4_leave 13 = .ok (.aload_n 0, 1) := by decide +kernel
theorem dX4_leave_14 : decode cX4_leave 14 = .ok (.getfield 10, 3) := by decide +kernel
theorem dX4_leave_17 : decode cX4_leave 17 = .ok (.aload_n 0, 1) := by decide +kernel
theorem dX4_leave_18 : decode cX4_leave 18 = .ok (.getfield 10, 3) := by decide +kernel
theorem dX4_leave_21 : decode cX4_leave 21 = .ok (.getfield 58, 3) := by decide +kernel
theorem dX4_leave_24 : decode cX4_leave 24 = .ok (.iload_n 1, 1) := by decide +kernel
theorem dX4_leave_25 : decode cX4_leave 25 = .ok (.iconst 0, 1) := by decide +kernel
theorem dX4_leave_26 : decode cX4_leave 26 = .ok (.invokestatic 62, 3) := by decide +kernel
theorem dX4_leave_29 : decode cX4_leave 29 = .ok (.putfield 58, 3) := by decide +kernel
theorem dX4_leave_32 : decode cX4_leave 32 = .ok (.aload_n 0, 1) := by decide +kernel
theorem dX4_leave_33 : decode cX4_leave 33 = .ok (.getfield 10, 3) := by decide +kernel
theorem dX4_leave_36 : decode cX4_leave 36 = .ok (.getfield 58, 3) := by decide +kernel
theorem dX4_leave_39 : decode cX4_leave 39 = .ok (.invokestatic 72, 3) := by decide +kernel
theorem dX4_leave_42 : decode cX4_leave 42 = .ok (.ireturn, 1) := by decide +kernel
set_option maxRecDepth 20000 in
theorem ggX4_table_X4_isPlace : GoodIn wsX4_table wsX4_isPlace := goodIn_r _ [6, 7, 8, 5, 9] (by decide +kernel) (by decide +kernel)
set_option maxRecDepth 20000 in
theorem gX4_table_X4_isPlace : GoodIn wsX4_table (va_wsS RX4 50 yX4_isPlace wsX4_isPlace) := goodIn_app (goodIn_of _ (by decide +kernel)) ggX4_table_X4_isPlace
set_option maxRecDepth 20000 in
theorem ggX4_table_X4_withBit : GoodIn wsX4_table wsX4_withBit := goodIn_r _ [12] (by decide +kernel) (by decide +kernel)
set_option maxRecDepth 20000 in
theorem gX4_table_X4_withBit : GoodIn wsX4_table (va_wsS RX4 62 yX4_withBit wsX4_withBit) := goodIn_app (goodIn_of _ (by decide +kernel)) ggX4_table_X4_withBit
theorem dX4_table_0 : decode cX4_table 0 = .ok (.iload_n 1, 1) := by decide +kernel
theorem dX4_table_1 : decode cX4_table 1 = .ok (.invokestatic 50, 3) := by decide +kernel
theorem dX4_table_4 : decode cX4_table 4 = .ok (.ifCond .ne 5, 3) := by decide +kernel
theorem dX4_table_7 : decode cX4_table 7 = .ok (.iconst (-1), 1) := by decide +kernel
theorem dX4_table_8 : decode cX4_table 8 = .ok (.ireturn, 1) := by decide +kernel
theorem dX4_table_9 : decode cX4_table 9 = .ok (.aload_n 0, 1) := by decide +kernel
theorem dX4_table_10 : decode cX4_table 10 = .ok (.getfield 10, 3) := by decide +kernel
theorem dX4_table_13 : decode cX4_table 13 = .ok (.aload_n 0, 1) := by decide +kernel
theorem dX4_table_14 : decode cX4_table 14 = .ok (.getfield 10, 3) := by decide +kernel
theorem dX4_table_17 : decode cX4_table 17 = .ok (.getfield 81, 3) := by decide +kernel
theorem dX4_table_20 : decode cX4_table 20 = .ok (.iload_n 1, 1) := by decide +kernel
theorem dX4_table_21 : decode cX4_table 21 = .ok (.iload_n 2, 1) := by decide +kernel
theorem dX4_table_22 : decode cX4_table 22 = .ok (.invokestatic 62, 3) := by decide +kernel
theorem dX4_table_25 : decode cX4_table 25 = .ok (.putfield 81, 3) := by decide +kernel
theorem dX4_table_28 : decode cX4_table 28 = .ok (.iconst 1, 1) := by decide +kernel
theorem dX4_table_29 : decode cX4_table 29 = .ok (.ireturn, 1) := by decide +kernel
set_option maxRecDepth 20000 in
theorem ggX4_set_X4_within : GoodIn wsX4_set wsX4_within := goodIn_r _ [7] (by decide +kernel) (by decide +kernel)
set_option maxRecDepth 20000 in
theorem gX4_set_X4_within : GoodIn wsX4_set (va_wsS RX4 46 yX4_within wsX4_within) := goodIn_app (goodIn_of _ (by decide +kernel)) ggX4_set_X4_within
theorem dX4_set_0 : decode cX4_set 0 = .ok (.iload_n 1, 1) := by decide +kernel
theorem dX4_set_1 : decode cX4_set 1 = .ok (.ifCond .ne 31, 3) := by decide +kernel
theorem dX4_set_4 : decode cX4_set 4 = .ok (.iload_n 2, 1) := by decide +kernel
theorem dX4_set_5 : decode cX4_set 5 = .ok (.iconst 1, 1) := by decide +kernel
theorem dX4_set_6 : decode cX4_set 6 = .ok (.bipush 9, 2) := by decide +kernel
theorem dX4_set_8 : decode cX4_set 8 = .ok (.invokestatic 46, 3) := by decide +kernel
theorem dX4_set_11 : decode cX4_set 11 = .ok (.ifCond .eq 21, 3) := by decide +kernel
theorem dX4_set_14 : decode cX4_set 14 = .ok (.aload_n 0, 1) := by decide +kernel
theorem dX4_set_15 : decode cX4_set 15 = .ok (.getfield 10, 3) := by decide +kernel
theorem dX4_set_18 : decode cX4_set 18 = .ok (.getfield 84, 3) := by decide +kernel
theorem dX4_set_21 : decode cX4_set 21 = .ok (.istore_n 3, 1) := by decide +kernel
theorem dX4_set_22 : decode cX4_set 22 = .ok (.aload_n 0, 1) := by decide +kernel
theorem dX4_set_23 : decode cX4_set 23 = .ok (.getfield 10, 3) := by decide +kernel
theorem dX4_set_26 : decode cX4_set 26 = .ok (.iload_n 2, 1) := by decide +kernel
theorem dX4_set_27 : decode cX4_set 27 = .ok (.putfield 84, 3) := by decide +kernel
theorem dX4_set_30 : decode cX4_set 30 = .ok (.iload_n 3, 1) := by decide +kernel
theorem dX4_set_31 : decode cX4_set 31 = .ok (.ireturn, 1) := by decide +kernel
theorem dX4_set_32 : decode cX4_set 32 = .ok (.iload_n 1, 1) := by decide +kernel
theorem dX4_set_33 : decode cX4_set 33 = .ok (.iconst 1, 1) := by decide +kernel
theorem dX4_set_34 : decode cX4_set 34 = .ok (.if_icmp .ne 31, 3) := by decide +kernel
theorem dX4_set_37 : decode cX4_set 37 = .ok (.iload_n 2, 1) := by decide +kernel
theorem dX4_set_38 : decode cX4_set 38 = .ok (.iconst 0, 1) := by decide +kernel
theorem dX4_set_39 : decode cX4_set 39 = .ok (.bipush 9, 2) := by decide +kernel
theorem dX4_set_41 : decode cX4_set 41 = .ok (.invokestatic 46, 3) := by decide +kernel
theorem dX4_set_44 : decode cX4_set 44 = .ok (.ifCond .eq 21, 3) := by decide +kernel
theorem dX4_set_47 : decode cX4_set 47 = .ok (.aload_n 0, 1) := by decide +kernel
theorem dX4_set_48 : decode cX4_set 48 = .ok (.getfield 10, 3) := by decide +kernel
theorem dX4_set_51 : decode cX4_set 51 = .ok (.getfield 87, 3) := by decide +kernel
theorem dX4_set_54 : decode cX4_set 54 = .ok (.istore_n 3, 1) := by decide +kernel
theorem dX4_set_55 : decode cX4_set 55 = .ok (.aload_n 0, 1) := by decide +kernel
theorem dX4_set_56 : decode cX4_set 56 = .ok (.getfield 10, 3) := by decide +kernel
theorem dX4_set_59 : decode cX4_set 59 = .ok (.iload_n 2, 1) := by decide +kernel
theorem dX4_set_60 : decode cX4_set 60 = .ok (.putfield 87, 3) := by decide +kernel
theorem dX4_set_63 : decode cX4_set 63 = .ok (.iload_n 3, 1) := by decide +kernel
theorem dX4_set_64 : decode cX4_set 64 = .ok (.ireturn, 1) := by decide +kernel
theorem dX4_set_65 : decode cX4_set 65 = .ok (.bipush (-2), 2) := by decide +kernel
theorem dX4_set_67 : decode cX4_set 67 = .ok (.ireturn, 1) := by decide +kernel
set_option maxRecDepth 20000 in
theorem ggX4_say_X4_within : GoodIn wsX4_say wsX4_within := goodIn_r _ [6] (by decide +kernel) (by decide +kernel)
set_option maxRecDepth 20000 in
theorem gX4_say_X4_within : GoodIn wsX4_say (va_wsS RX4 46 yX4_within wsX4_within) := goodIn_app (goodIn_of _ (by decide +kernel)) ggX4_say_X4_within
set_option maxRecDepth 20000 in
theorem ggX4_say_X2_write : GoodIn wsX4_say wsX2_write := goodIn_r _ [11, 12, 13, 4, 5, 6, 20, 21] (by decide +kernel) (by decide +kernel)
set_option maxRecDepth 20000 in
theorem gX4_say_X2_write : GoodIn wsX4_say (wsV RX4 90 RX2 yX2_write wsX2_write) := goodIn_app (goodIn_of _ (by decide +kernel)) ggX4_say_X2_write
theorem dX4_say_0 : decode cX4_say 0 = .ok (.iload_n 1, 1) := by decide +kernel
theorem dX4_say_1 : decode cX4_say 1 = .ok (.bipush 33, 2) := by decide +kernel
theorem dX4_say_3 : decode cX4_say 3 = .ok (.bipush 126, 2) := by decide +kernel
theorem dX4_say_5 : decode cX4_say 5 = .ok (.invokestatic 46, 3) := by decide +kernel
theorem dX4_say_8 : decode cX4_say 8 = .ok (.ifCond .ne 6, 3) := by decide +kernel
theorem dX4_say_11 : decode cX4_say 11 = .ok (.bipush (-2), 2) := by decide +kernel
theorem dX4_say_13 : decode cX4_say 13 = .ok (.ireturn, 1) := by decide +kernel
theorem dX4_say_14 : decode cX4_say 14 = .ok (.aload_n 0, 1) := by decide +kernel
theorem dX4_say_15 : decode cX4_say 15 = .ok (.getfield 26, 3) := by decide +kernel
theorem dX4_say_18 : decode cX4_say 18 = .ok (.iload_n 1, 1) := by decide +kernel
theorem dX4_say_19 : decode cX4_say 19 = .ok (.invokevirtual 90, 3) := by decide +kernel
theorem dX4_say_22 : decode cX4_say 22 = .ok (.ifCond .eq 13, 3) := by decide +kernel
theorem dX4_say_25 : decode cX4_say 25 = .ok (.aload_n 0, 1) := by decide +kernel
theorem dX4_say_26 : decode cX4_say 26 = .ok (.getfield 26, 3) := by decide +kernel
theorem dX4_say_29 : decode cX4_say 29 = .ok (.getfield 93, 3) := by decide +kernel
theorem dX4_say_32 : decode cX4_say 32 = .ok (.goto 5, 3) := by decide +kernel
theorem dX4_say_35 : decode cX4_say 35 = .ok (.bipush (-4), 2) := by decide +kernel
theorem dX4_say_37 : decode cX4_say 37 = .ok (.ireturn, 1) := by decide +kernel
theorem dX4_wipe_0 : decode cX4_wipe 0 = .ok (.aload_n 0, 1) := by decide +kernel
theorem dX4_wipe_1 : decode cX4_wipe 1 = .ok (.getfield 26, 3) := by decide +kernel
theorem dX4_wipe_4 : decode cX4_wipe 4 = .ok (.getfield 93, 3) := by decide +kernel
theorem dX4_wipe_7 : decode cX4_wipe 7 = .ok (.istore_n 1, 1) := by decide +kernel
theorem dX4_wipe_8 : decode cX4_wipe 8 = .ok (.aload_n 0, 1) := by decide +kernel
theorem dX4_wipe_9 : decode cX4_wipe 9 = .ok (.getfield 26, 3) := by decide +kernel
theorem dX4_wipe_12 : decode cX4_wipe 12 = .ok (.iconst 0, 1) := by decide +kernel
theorem dX4_wipe_13 : decode cX4_wipe 13 = .ok (.putfield 93, 3) := by decide +kernel
theorem dX4_wipe_16 : decode cX4_wipe 16 = .ok (.iload_n 1, 1) := by decide +kernel
theorem dX4_wipe_17 : decode cX4_wipe 17 = .ok (.ireturn, 1) := by decide +kernel
set_option maxRecDepth 20000 in
theorem ggX4_fault_X2_firstFault : GoodIn wsX4_fault wsX2_firstFault := goodIn_r _ [6, 7, 8, 9, 10, 5, 11, 12, 13, 14, 15, 16, 17, 18, 19, 20, 21, 22, 23, 24, 31, 32] (by decide +kernel) (by decide +kernel)
set_option maxRecDepth 20000 in
theorem gX4_fault_X2_firstFault : GoodIn wsX4_fault (wsV RX4 96 RX2 yX2_firstFault wsX2_firstFault) := goodIn_app (goodIn_of _ (by decide +kernel)) ggX4_fault_X2_firstFault
theorem dX4_fault_0 : decode cX4_fault 0 = .ok (.aload_n 0, 1) := by decide +kernel
theorem dX4_fault_1 : decode cX4_fault 1 = .ok (.getfield 26, 3) := by decide +kernel
theorem dX4_fault_4 : decode cX4_fault 4 = .ok (.invokevirtual 96, 3) := by decide +kernel
theorem dX4_fault_7 : decode cX4_fault 7 = .ok (.ireturn, 1) := by decide +kernel
set_option maxRecDepth 20000 in
theorem ggX4_rules_X4_isPlace : GoodIn wsX4_rules wsX4_isPlace := goodIn_r _ [5, 6, 7, 4, 8] (by decide +kernel) (by decide +kernel)
set_option maxRecDepth 20000 in
theorem gX4_rules_X4_isPlace : GoodIn wsX4_rules (va_wsS RX4 50 yX4_isPlace wsX4_isPlace) := goodIn_app (goodIn_of _ (by decide +kernel)) ggX4_rules_X4_isPlace
set_option maxRecDepth 20000 in
theorem ggX4_rules_X4_within : GoodIn wsX4_rules wsX4_within := goodIn_r _ [8] (by decide +kernel) (by decide +kernel)
set_option maxRecDepth 20000 in
theorem gX4_rules_X4_within : GoodIn wsX4_rules (va_wsS RX4 46 yX4_within wsX4_within) := goodIn_app (goodIn_of _ (by decide +kernel)) ggX4_rules_X4_within
set_option maxRecDepth 20000 in
theorem ggX4_rules_X0_rulers : GoodIn wsX4_rules wsX0_rulers := goodIn_r _ [13, 14, 15, 16, 12, 17, 18, 19, 20, 21, 22, 23, 24, 25, 26, 27, 28, 29, 30, 31, 4, 32, 33, 34, 35, 36, 37, 38, 39, 40, 41, 42, 57, 58, 59, 60, 61, 62, 63, 64, 65, 66, 67, 68] (by decide +kernel) (by decide +kernel)
set_option maxRecDepth 20000 in
theorem gX4_rules_X0_rulers : GoodIn wsX4_rules (wsV RX4 100 RX0 yX0_rulers wsX0_rulers) := goodIn_app (goodIn_of _ (by decide +kernel)) ggX4_rules_X0_rulers
set_option maxRecDepth 20000 in
theorem ggX4_rules_X4_firstPerson : GoodIn wsX4_rules wsX4_firstPerson := goodIn_r _ [45, 46, 31, 4, 32] (by decide +kernel) (by decide +kernel)
set_option maxRecDepth 20000 in
theorem gX4_rules_X4_firstPerson : GoodIn wsX4_rules (va_wsS RX4 103 yX4_firstPerson wsX4_firstPerson) := goodIn_app (goodIn_of _ (by decide +kernel)) ggX4_rules_X4_firstPerson
set_option maxRecDepth 20000 in
theorem ggX4_rules_X0_openTime : GoodIn wsX4_rules wsX0_openTime := goodIn_r _ [50, 25, 26, 7, 4, 8, 33, 34, 35, 12, 36, 37, 38, 39, 40, 29, 41, 42, 31, 32, 57, 58, 59, 60, 61, 62, 63, 64, 65, 66, 67, 68] (by decide +kernel) (by decide +kernel)
set_option maxRecDepth 20000 in
theorem gX4_rules_X0_openTime : GoodIn wsX4_rules (wsV RX4 106 RX0 yX0_openTime wsX0_openTime) := goodIn_app (goodIn_of _ (by decide +kernel)) ggX4_rules_X0_openTime
theorem dX4_rules_0 : decode cX4_rules 0 = .ok (.iload_n 1, 1) := by decide +kernel
theorem dX4_rules_1 : decode cX4_rules 1 = .ok (.invokestatic 50, 3) := by decide +kernel
theorem dX4_rules_4 : decode cX4_rules 4 = .ok (.ifCond .ne 5, 3) := by decide +kernel
theorem dX4_rules_7 : decode cX4_rules 7 = .ok (.iconst (-1), 1) := by decide +kernel
theorem dX4_rules_8 : decode cX4_rules 8 = .ok (.ireturn, 1) := by decide +kernel
theorem dX4_rules_9 : decode cX4_rules 9 = .ok (.iload_n 2, 1) := by decide +kernel
theorem dX4_rules_10 : decode cX4_rules 10 = .ok (.iconst 0, 1) := by decide +kernel
theorem dX4_rules_11 : decode cX4_rules 11 = .ok (.iconst 1, 1) := by decide +kernel
theorem dX4_rules_12 : decode cX4_rules 12 = .ok (.invokestatic 46, 3) := by decide +kernel
theorem dX4_rules_15 : decode cX4_rules 15 = .ok (.ifCond .ne 6, 3) := by decide +kernel
theorem dX4_rules_18 : decode cX4_rules 18 = .ok (.bipush (-2), 2) := by decide +kernel
theorem dX4_rules_20 : decode cX4_rules 20 = .ok (.ireturn, 1) := by decide +kernel
theorem dX4_rules_21 : decode cX4_rules 21 = .ok (.aload_n 0, 1) := by decide +kernel
theorem dX4_rules_22 : decode cX4_rules 22 = .ok (.getfield 10, 3) := by decide +kernel
theorem dX4_rules_25 : decode cX4_rules 25 = .ok (.iload_n 1, 1) := by decide +kernel
theorem dX4_rules_26 : decode cX4_rules 26 = .ok (.invokevirtual 100, 3) := by decide +kernel
theorem dX4_rules_29 : decode cX4_rules 29 = .ok (.istore_n 3, 1) := by decide +kernel
theorem dX4_rules_30 : decode cX4_rules 30 = .ok (.iload_n 3, 1) := by decide +kernel
theorem dX4_rules_31 : decode cX4_rules 31 = .ok (.ifCond .ne 6, 3) := by decide +kernel
theorem dX4_rules_34 : decode cX4_rules 34 = .ok (.bipush (-6), 2) := by decide +kernel
theorem dX4_rules_36 : decode cX4_rules 36 = .ok (.ireturn, 1) := by decide +kernel
theorem dX4_rules_37 : decode cX4_rules 37 = .ok (.iload_n 2, 1) := by decide +kernel
theorem dX4_rules_38 : decode cX4_rules 38 = .ok (.ifCond .ne 7, 3) := by decide +kernel
theorem dX4_rules_41 : decode cX4_rules 41 = .ok (.iload_n 3, 1) := by decide +kernel
theorem dX4_rules_42 : decode cX4_rules 42 = .ok (.goto 15, 3) := by decide +kernel
theorem dX4_rules_45 : decode cX4_rules 45 = .ok (.aload_n 0, 1) := by decide +kernel
theorem dX4_rules_46 : decode cX4_rules 46 = .ok (.getfield 10, 3) := by decide +kernel
theorem dX4_rules_49 : decode cX4_rules 49 = .ok (.iload_n 3, 1) := by decide +kernel
theorem dX4_rules_50 : decode cX4_rules 50 = .ok (.invokestatic 103, 3) := by decide +kernel
theorem dX4_rules_53 : decode cX4_rules 53 = .ok (.iload_n 1, 1) := by decide +kernel
theorem dX4_rules_54 : decode cX4_rules 54 = .ok (.invokevirtual 106, 3) := by decide +kernel
theorem dX4_rules_57 : decode cX4_rules 57 = .ok (.ireturn, 1) := by decide +kernel
set_option maxRecDepth 20000 in
theorem ggX4_opens_X0_isThere : GoodIn wsX4_opens wsX0_isThere := goodIn_r _ [7, 8, 9, 10, 11, 12, 13, 42, 43, 44, 45, 46, 47, 48, 49, 50, 51, 52, 53] (by decide +kernel) (by decide +kernel)
set_option maxRecDepth 20000 in
theorem gX4_opens_X0_isThere : GoodIn wsX4_opens (wsV RX4 78 RX0 yX0_isThere wsX0_isThere) := goodIn_app (goodIn_of _ (by decide +kernel)) ggX4_opens_X0_isThere
set_option maxRecDepth 20000 in
theorem ggX4_opens_X4_isPlace : GoodIn wsX4_opens wsX4_isPlace := goodIn_r _ [16, 17, 9, 10, 11] (by decide +kernel) (by decide +kernel)
set_option maxRecDepth 20000 in
theorem gX4_opens_X4_isPlace : GoodIn wsX4_opens (va_wsS RX4 50 yX4_isPlace wsX4_isPlace) := goodIn_app (goodIn_of _ (by decide +kernel)) ggX4_opens_X4_isPlace
set_option maxRecDepth 20000 in
theorem ggX4_opens_X4_hasBit : GoodIn wsX4_opens wsX4_hasBit := goodIn_r _ [13] (by decide +kernel) (by decide +kernel)
set_option maxRecDepth 20000 in
theorem gX4_opens_X4_hasBit : GoodIn wsX4_opens (va_wsS RX4 110 yX4_hasBit wsX4_hasBit) := goodIn_app (goodIn_of _ (by decide +kernel)) ggX4_opens_X4_hasBit
set_option maxRecDepth 20000 in
theorem ggX4_opens_X0_openTime : GoodIn wsX4_opens wsX0_openTime := goodIn_r _ [22, 23, 24, 9, 10, 11, 25, 26, 27, 6, 28, 29, 30, 31, 32, 33, 34, 35, 12, 13, 42, 43, 44, 45, 46, 47, 48, 49, 50, 51, 52, 53] (by decide +kernel) (by decide +kernel)
set_option maxRecDepth 20000 in
theorem gX4_opens_X0_openTime : GoodIn wsX4_opens (wsV RX4 106 RX0 yX0_openTime wsX0_openTime) := goodIn_app (goodIn_of _ (by decide +kernel)) ggX4_opens_X0_openTime
theorem dX4_opens_0 : decode cX4_opens 0 = .ok (.aload_n 0, 1) := by decide +kernel
theorem dX4_opens_1 : decode cX4_opens 1 = .ok (.getfield 10, 3) := by decide +kernel
theorem dX4_opens_4 : decode cX4_opens 4 = .ok (.iload_n 1, 1) := by decide +kernel
theorem dX4_opens_5 : decode cX4_opens 5 = .ok (.invokevirtual 78, 3) := by decide +kernel
theorem dX4_opens_8 : decode cX4_opens 8 = .ok (.ifCond .eq 10, 3) := by decide +kernel
theorem dX4_opens_11 : decode cX4_opens 11 = .ok (.iload_n 2, 1) := by decide +kernel
theorem dX4_opens_12 : decode cX4_opens 12 = .ok (.invokestatic 50, 3) := by decide +kernel
theorem dX4_opens_15 : decode cX4_opens 15 = .ok (.ifCond .ne 5, 3) := by decide +kernel
theorem dX4_opens_18 : decode cX4_opens 18 = .ok (.iconst (-1), 1) := by decide +kernel
theorem dX4_opens_19 : decode cX4_opens 19 = .ok (.ireturn, 1) := by decide +kernel
theorem dX4_opens_20 : decode cX4_opens 20 = .ok (.aload_n 0, 1) := by decide +kernel
theorem dX4_opens_21 : decode cX4_opens 21 = .ok (.getfield 10, 3) := by decide +kernel
theorem dX4_opens_24 : decode cX4_opens 24 = .ok (.getfield 69, 3) := by decide +kernel
theorem dX4_opens_27 : decode cX4_opens 27 = .ok (.iload_n 1, 1) := by decide +kernel
theorem dX4_opens_28 : decode cX4_opens 28 = .ok (.invokestatic 110, 3) := by decide +kernel
theorem dX4_opens_31 : decode cX4_opens 31 = .ok (.ifCond .eq 8, 3) := by decide +kernel
theorem dX4_opens_34 : decode cX4_opens 34 = .ok (.bipush (-6), 2) := by decide +kernel
theorem dX4_opens_36 : decode cX4_opens 36 = .ok (.goto 12, 3) := by decide +kernel
theorem dX4_opens_39 : decode cX4_opens 39 = .ok (.aload_n 0, 1) := by decide +kernel
theorem dX4_opens_40 : decode cX4_opens 40 = .ok (.getfield 10, 3) := by decide +kernel
theorem dX4_opens_43 : decode cX4_opens 43 = .ok (.iload_n 1, 1) := by decide +kernel
theorem dX4_opens_44 : decode cX4_opens 44 = .ok (.iload_n 2, 1) := by decide +kernel
theorem dX4_opens_45 : decode cX4_opens 45 = .ok (.invokevirtual 106, 3) := by decide +kernel
theorem dX4_opens_48 : decode cX4_opens 48 = .ok (.ireturn, 1) := by decide +kernel
set_option maxRecDepth 20000 in
theorem ggX4_never_X0_rulers : GoodIn wsX4_never wsX0_rulers := goodIn_r _ [7, 8, 9, 10, 6, 11, 12, 13, 14, 15, 16, 17, 18, 19, 20, 21, 22, 23, 24, 25, 26, 27, 28, 29, 30, 31, 32, 33, 34, 35, 36, 37, 44, 45, 46, 47, 48, 49, 50, 51, 52, 53, 54, 55] (by decide +kernel) (by decide +kernel)
set_option maxRecDepth 20000 in
theorem gX4_never_X0_rulers : GoodIn wsX4_never (wsV RX4 100 RX0 yX0_rulers wsX0_rulers) := goodIn_app (goodIn_of _ (by decide +kernel)) ggX4_never_X0_rulers
theorem dX4_never_0 : decode cX4_never 0 = .ok (.aload_n 0, 1) := by decide +kernel
theorem dX4_never_1 : decode cX4_never 1 = .ok (.getfield 10, 3) := by decide +kernel
theorem dX4_never_4 : decode cX4_never 4 = .ok (.getfield 58, 3) := by decide +kernel
theorem dX4_never_7 : decode cX4_never 7 = .ok (.istore_n 1, 1) := by decide +kernel
theorem dX4_never_8 : decode cX4_never 8 = .ok (.iconst 0, 1) := by decide +kernel
theorem dX4_never_9 : decode cX4_never 9 = .ok (.istore_n 2, 1) := by decide +kernel
theorem dX4_never_10 : decode cX4_never 10 = .ok (.iload_n 2, 1) := by decide +kernel
theorem dX4_never_11 : decode cX4_never 11 = .ok (.bipush 10, 2) := by decide +kernel
theorem dX4_never_13 : decode cX4_never 13 = .ok (.if_icmp .ge 22, 3) := by decide +kernel
theorem dX4_never_16 : decode cX4_never 16 = .ok (.iload_n 1, 1) := by decide +kernel
theorem dX4_never_17 : decode cX4_never 17 = .ok (.aload_n 0, 1) := by decide +kernel
theorem dX4_never_18 : decode cX4_never 18 = .ok (.getfield 10, 3) := by decide +kernel
theorem dX4_never_21 : decode cX4_never 21 = .ok (.iload_n 2, 1) := by decide +kernel
theorem dX4_never_22 : decode cX4_never 22 = .ok (.invokevirtual 100, 3) := by decide +kernel
theorem dX4_never_25 : decode cX4_never 25 = .ok (.iconst (-1), 1) := by decide +kernel
theorem dX4_never_26 : decode cX4_never 26 = .ok (.ixor, 1) := by decide +kernel
theorem dX4_never_27 : decode cX4_never 27 = .ok (.iand, 1) := by decide +kernel
theorem dX4_never_28 : decode cX4_never 28 = .ok (.istore_n 1, 1) := by decide +kernel
theorem dX4_never_29 : decode cX4_never 29 = .ok (.iinc 2 1, 3) := by decide +kernel
theorem dX4_never_32 : decode cX4_never 32 = .ok (.goto (-22), 3) := by decide +kernel
theorem dX4_never_35 : decode cX4_never 35 = .ok (.iload_n 1, 1) := by decide +kernel
theorem dX4_never_36 : decode cX4_never 36 = .ok (.ireturn, 1) := by decide +kernel
set_option maxRecDepth 20000 in
theorem ggX4_reign_X2_firstFault : GoodIn wsX4_reign wsX2_firstFault := goodIn_r _ [8, 9, 10, 11, 12, 7, 13, 14, 15, 16, 17, 18, 19, 20, 21, 22, 23, 24, 25, 26, 130, 131] (by decide +kernel) (by decide +kernel)
set_option maxRecDepth 20000 in
theorem gX4_reign_X2_firstFault : GoodIn wsX4_reign (wsV RX4 96 RX2 yX2_firstFault wsX2_firstFault) := goodIn_app (goodIn_of _ (by decide +kernel)) ggX4_reign_X2_firstFault
set_option maxRecDepth 20000 in
theorem ggX4_reign_X2_parts : GoodIn wsX4_reign wsX2_parts := goodIn_r _ [30, 9, 10, 11, 12, 7, 13, 14, 15, 16, 17, 21, 22, 23, 130, 131] (by decide +kernel) (by decide +kernel)
set_option maxRecDepth 20000 in
theorem gX4_reign_X2_parts : GoodIn wsX4_reign (wsV RX4 114 RX2 yX2_parts wsX2_parts) := goodIn_app (goodIn_of _ (by decide +kernel)) ggX4_reign_X2_parts
set_option maxRecDepth 20000 in
theorem ggX4_reign_X4_within : GoodIn wsX4_reign wsX4_within := goodIn_r _ [17] (by decide +kernel) (by decide +kernel)
set_option maxRecDepth 20000 in
theorem gX4_reign_X4_within : GoodIn wsX4_reign (va_wsS RX4 46 yX4_within wsX4_within) := goodIn_app (goodIn_of _ (by decide +kernel)) ggX4_reign_X4_within
set_option maxRecDepth 20000 in
theorem ggX4_reign_X1_play : GoodIn wsX4_reign wsX1_play := goodIn_r _ [36, 37, 38, 39, 40, 35, 41, 42, 43, 44, 45, 46, 47, 48, 49, 50, 11, 12, 7, 13, 14, 15, 16, 17, 51, 22, 23, 52, 53, 54, 55, 56, 57, 58, 59, 60, 61, 62, 63, 64, 65, 66, 67, 68, 69, 70, 71, 72, 73, 74, 75, 76, 77, 78, 79, 80, 81, 82, 83, 84, 85, 86, 87, 88, 89, 90, 91, 92, 93, 94, 95, 96, 97, 98, 99, 100, 101, 102, 103, 104, 105, 106, 107, 108, 109, 110, 111, 112, 113, 114, 115, 116, 117, 118, 130, 131, 125, 126, 127, 128, 129, 132, 133, 134, 135, 136, 137, 138, 139, 140, 141, 142, 143] (by decide +kernel) (by decide +kernel)
set_option maxRecDepth 20000 in
theorem gX4_reign_X1_play : GoodIn wsX4_reign (wsV RX4 117 RX1 yX1_play wsX1_play) := goodIn_app (goodIn_of _ (by decide +kernel)) ggX4_reign_X1_play
theorem dX4_reign_0 : decode cX4_reign 0 = .ok (.aload_n 0, 1) := by decide +kernel
theorem dX4_reign_1 : decode cX4_reign 1 = .ok (.getfield 26, 3) := by decide +kernel
theorem dX4_reign_4 : decode cX4_reign 4 = .ok (.invokevirtual 96, 3) := by decide +kernel
theorem dX4_reign_7 : decode cX4_reign 7 = .ok (.bipush (-6), 2) := by decide +kernel
theorem dX4_reign_9 : decode cX4_reign 9 = .ok (.if_icmp .eq 6, 3) := by decide +kernel
theorem dX4_reign_12 : decode cX4_reign 12 = .ok (.bipush (-5), 2) := by decide +kernel
theorem dX4_reign_14 : decode cX4_reign 14 = .ok (.ireturn, 1) := by decide +kernel
theorem dX4_reign_15 : decode cX4_reign 15 = .ok (.aload_n 0, 1) := by decide +kernel
theorem dX4_reign_16 : decode cX4_reign 16 = .ok (.getfield 26, 3) := by decide +kernel
theorem dX4_reign_19 : decode cX4_reign 19 = .ok (.invokevirtual 114, 3) := by decide +kernel
theorem dX4_reign_22 : decode cX4_reign 22 = .ok (.istore_n 2, 1) := by decide +kernel
theorem dX4_reign_23 : decode cX4_reign 23 = .ok (.iload_n 1, 1) := by decide +kernel
theorem dX4_reign_24 : decode cX4_reign 24 = .ok (.iconst (-1), 1) := by decide +kernel
theorem dX4_reign_25 : decode cX4_reign 25 = .ok (.iload_n 2, 1) := by decide +kernel
theorem dX4_reign_26 : decode cX4_reign 26 = .ok (.invokestatic 46, 3) := by decide +kernel
theorem dX4_reign_29 : decode cX4_reign 29 = .ok (.ifCond .ne 6, 3) := by decide +kernel
theorem dX4_reign_32 : decode cX4_reign 32 = .ok (.bipush (-2), 2) := by decide +kernel
theorem dX4_reign_34 : decode cX4_reign 34 = .ok (.ireturn, 1) := by decide +kernel
theorem dX4_reign_35 : decode cX4_reign 35 = .ok (.aload_n 0, 1) := by decide +kernel
theorem dX4_reign_36 : decode cX4_reign 36 = .ok (.getfield 35, 3) := by decide +kernel
theorem dX4_reign_39 : decode cX4_reign 39 = .ok (.aload_n 0, 1) := by decide +kernel
theorem dX4_reign_40 : decode cX4_reign 40 = .ok (.getfield 26, 3) := by decide +kernel
theorem dX4_reign_43 : decode cX4_reign 43 = .ok (.iload_n 1, 1) := by decide +kernel
theorem dX4_reign_44 : decode cX4_reign 44 = .ok (.iconst (-1), 1) := by decide +kernel
theorem dX4_reign_45 : decode cX4_reign 45 = .ok (.if_icmp .ne 7, 3) := by decide +kernel
theorem dX4_reign_48 : decode cX4_reign 48 = .ok (.iload_n 2, 1) := by decide +kernel
theorem dX4_reign_49 : decode cX4_reign 49 = .ok (.goto 4, 3) := by decide +kernel
theorem dX4_reign_52 : decode cX4_reign 52 = .ok (.iload_n 1, 1) := by decide +kernel
theorem dX4_reign_53 : decode cX4_reign 53 = .ok (.invokevirtual 117, 3) := by decide +kernel
theorem dX4_reign_56 : decode cX4_reign 56 = .ok (.aload_n 0, 1) := by decide +kernel
theorem dX4_reign_57 : decode cX4_reign 57 = .ok (.getfield 35, 3) := by decide +kernel
theorem dX4_reign_60 : decode cX4_reign 60 = .ok (.getfield 121, 3) := by decide +kernel
theorem dX4_reign_63 : decode cX4_reign 63 = .ok (.ifCond .ne 8, 3) := by decide +kernel
theorem dX4_reign_66 : decode cX4_reign 66 = .ok (.bipush (-6), 2) := by decide +kernel
theorem dX4_reign_68 : decode cX4_reign 68 = .ok (.goto 10, 3) := by decide +kernel
theorem dX4_reign_71 : decode cX4_reign 71 = .ok (.aload_n 0, 1) := by decide +kernel
theorem dX4_reign_72 : decode cX4_reign 72 = .ok (.getfield 35, 3) := by decide +kernel
theorem dX4_reign_75 : decode cX4_reign 75 = .ok (.getfield 121, 3) := by decide +kernel
theorem dX4_reign_78 : decode cX4_reign 78 = .ok (.ireturn, 1) := by decide +kernel
set_option maxRecDepth 20000 in
theorem ggX4_years_X2_firstFault : GoodIn wsX4_years wsX2_firstFault := goodIn_r _ [8, 9, 10, 11, 12, 7, 13, 14, 15, 16, 17, 18, 19, 20, 21, 22, 23, 24, 25, 26, 134, 135] (by decide +kernel) (by decide +kernel)
set_option maxRecDepth 20000 in
theorem gX4_years_X2_firstFault : GoodIn wsX4_years (wsV RX4 96 RX2 yX2_firstFault wsX2_firstFault) := goodIn_app (goodIn_of _ (by decide +kernel)) ggX4_years_X2_firstFault
set_option maxRecDepth 20000 in
theorem ggX4_years_X4_within : GoodIn wsX4_years wsX4_within := goodIn_r _ [17] (by decide +kernel) (by decide +kernel)
set_option maxRecDepth 20000 in
theorem gX4_years_X4_within : GoodIn wsX4_years (va_wsS RX4 46 yX4_within wsX4_within) := goodIn_app (goodIn_of _ (by decide +kernel)) ggX4_years_X4_within
set_option maxRecDepth 20000 in
theorem ggX4_years_X2_parts : GoodIn wsX4_years wsX2_parts := goodIn_r _ [31, 9, 10, 11, 12, 7, 13, 14, 15, 16, 17, 21, 22, 23, 134, 135] (by decide +kernel) (by decide +kernel)
set_option maxRecDepth 20000 in
theorem gX4_years_X2_parts : GoodIn wsX4_years (wsV RX4 114 RX2 yX2_parts wsX2_parts) := goodIn_app (goodIn_of _ (by decide +kernel)) ggX4_years_X2_parts
set_option maxRecDepth 20000 in
theorem ggX4_years_X1_play : GoodIn wsX4_years wsX1_play := goodIn_r _ [36, 37, 38, 39, 40, 35, 41, 42, 43, 44, 45, 46, 47, 48, 49, 50, 11, 12, 7, 13, 14, 15, 16, 17, 51, 22, 23, 52, 53, 54, 55, 56, 57, 58, 59, 60, 61, 62, 63, 64, 65, 66, 67, 68, 69, 70, 71, 72, 73, 74, 75, 76, 77, 78, 79, 80, 81, 82, 83, 84, 85, 86, 87, 88, 89, 90, 91, 92, 93, 94, 95, 96, 97, 98, 99, 100, 101, 102, 103, 104, 105, 106, 107, 108, 109, 110, 111, 112, 113, 114, 115, 116, 117, 118, 134, 135, 129, 130, 131, 132, 133, 136, 137, 138, 139, 140, 141, 142, 143, 144, 145, 146, 147] (by decide +kernel) (by decide +kernel)
set_option maxRecDepth 20000 in
theorem gX4_years_X1_play : GoodIn wsX4_years (wsV RX4 117 RX1 yX1_play wsX1_play) := goodIn_app (goodIn_of _ (by decide +kernel)) ggX4_years_X1_play
set_option maxRecDepth 20000 in
theorem ggX4_years_X1_yearsOf : GoodIn wsX4_years wsX1_yearsOf := goodIn_r _ [122, 45, 15, 16, 17, 129, 130, 131, 132, 133] (by decide +kernel) (by decide +kernel)
set_option maxRecDepth 20000 in
theorem gX4_years_X1_yearsOf : GoodIn wsX4_years (wsV RX4 127 RX1 yX1_yearsOf wsX1_yearsOf) := goodIn_app (goodIn_of _ (by decide +kernel)) ggX4_years_X1_yearsOf
theorem dX4_years_0 : decode cX4_years 0 = .ok (.aload_n 0, 1) := by decide +kernel
theorem dX4_years_1 : decode cX4_years 1 = .ok (.getfield 26, 3) := by decide +kernel
theorem dX4_years_4 : decode cX4_years 4 = .ok (.invokevirtual 96, 3) := by decide +kernel
theorem dX4_years_7 : decode cX4_years 7 = .ok (.bipush (-6), 2) := by decide +kernel
theorem dX4_years_9 : decode cX4_years 9 = .ok (.if_icmp .eq 6, 3) := by decide +kernel
theorem dX4_years_12 : decode cX4_years 12 = .ok (.bipush (-5), 2) := by decide +kernel
theorem dX4_years_14 : decode cX4_years 14 = .ok (.ireturn, 1) := by decide +kernel
theorem dX4_years_15 : decode cX4_years 15 = .ok (.iload_n 1, 1) := by decide +kernel
theorem dX4_years_16 : decode cX4_years 16 = .ok (.iconst 0, 1) := by decide +kernel
theorem dX4_years_17 : decode cX4_years 17 = .ok (.bipush 9, 2) := by decide +kernel
theorem dX4_years_19 : decode cX4_years 19 = .ok (.invokestatic 46, 3) := by decide +kernel
theorem dX4_years_22 : decode cX4_years 22 = .ok (.ifCond .ne 6, 3) := by decide +kernel
theorem dX4_years_25 : decode cX4_years 25 = .ok (.bipush (-2), 2) := by decide +kernel
theorem dX4_years_27 : decode cX4_years 27 = .ok (.ireturn, 1) := by decide +kernel
theorem dX4_years_28 : decode cX4_years 28 = .ok (.aload_n 0, 1) := by decide +kernel
theorem dX4_years_29 : decode cX4_years 29 = .ok (.getfield 35, 3) := by decide +kernel
theorem dX4_years_32 : decode cX4_years 32 = .ok (.aload_n 0, 1) := by decide +kernel
theorem dX4_years_33 : decode cX4_years 33 = .ok (.getfield 26, 3) := by decide +kernel
theorem dX4_years_36 : decode cX4_years 36 = .ok (.aload_n 0, 1) := by decide +kernel
theorem dX4_years_37 : decode cX4_years 37 = .ok (.getfield 26, 3) := by decide +kernel
theorem dX4_years_40 : decode cX4_years 40 = .ok (.invokevirtual 114, 3) := by decide +kernel
theorem dX4_years_43 : decode cX4_years 43 = .ok (.invokevirtual 117, 3) := by decide +kernel
theorem dX4_years_46 : decode cX4_years 46 = .ok (.iload_n 1, 1) := by decide +kernel
theorem dX4_years_47 : decode cX4_years 47 = .ok (.bipush 9, 2) := by decide +kernel
theorem dX4_years_49 : decode cX4_years 49 = .ok (.if_icmp .ne 13, 3) := by decide +kernel
theorem dX4_years_52 : decode cX4_years 52 = .ok (.aload_n 0, 1) := by decide +kernel
theorem dX4_years_53 : decode cX4_years 53 = .ok (.getfield 35, 3) := by decide +kernel
theorem dX4_years_56 : decode cX4_years 56 = .ok (.getfield 124, 3) := by decide +kernel
theorem dX4_years_59 : decode cX4_years 59 = .ok (.goto 11, 3) := by decide +kernel
theorem dX4_years_62 : decode cX4_years 62 = .ok (.aload_n 0, 1) := by decide +kernel
theorem dX4_years_63 : decode cX4_years 63 = .ok (.getfield 35, 3) := by decide +kernel
theorem dX4_years_66 : decode cX4_years 66 = .ok (.iload_n 1, 1) := by decide +kernel
theorem dX4_years_67 : decode cX4_years 67 = .ok (.invokevirtual 127, 3) := by decide +kernel
theorem dX4_years_70 : decode cX4_years 70 = .ok (.ireturn, 1) := by decide +kernel
set_option maxRecDepth 20000 in
theorem ggX4_weight_X4_isPlace : GoodIn wsX4_weight wsX4_isPlace := goodIn_r _ [6, 7, 8, 5, 9] (by decide +kernel) (by decide +kernel)
set_option maxRecDepth 20000 in
theorem gX4_weight_X4_isPlace : GoodIn wsX4_weight (va_wsS RX4 50 yX4_isPlace wsX4_isPlace) := goodIn_app (goodIn_of _ (by decide +kernel)) ggX4_weight_X4_isPlace
set_option maxRecDepth 20000 in
theorem ggX4_weight_X4_within : GoodIn wsX4_weight wsX4_within := goodIn_r _ [9] (by decide +kernel) (by decide +kernel)
set_option maxRecDepth 20000 in
theorem gX4_weight_X4_within : GoodIn wsX4_weight (va_wsS RX4 46 yX4_within wsX4_within) := goodIn_app (goodIn_of _ (by decide +kernel)) ggX4_weight_X4_within
set_option maxRecDepth 20000 in
theorem ggX4_weight_X0_allWeights : GoodIn wsX4_weight wsX0_allWeights := goodIn_r _ [14, 15, 22, 23, 24, 25, 26, 27, 28, 29, 30, 31, 32, 33] (by decide +kernel) (by decide +kernel)
set_option maxRecDepth 20000 in
theorem gX4_weight_X0_allWeights : GoodIn wsX4_weight (wsV RX4 134 RX0 yX0_allWeights wsX0_allWeights) := goodIn_app (goodIn_of _ (by decide +kernel)) ggX4_weight_X0_allWeights
theorem dX4_weight_0 : decode cX4_weight 0 = .ok (.iload_n 1, 1) := by decide +kernel
theorem dX4_weight_1 : decode cX4_weight 1 = .ok (.invokestatic 50, 3) := by decide +kernel
theorem dX4_weight_4 : decode cX4_weight 4 = .ok (.ifCond .ne 5, 3) := by decide +kernel
theorem dX4_weight_7 : decode cX4_weight 7 = .ok (.iconst (-1), 1) := by decide +kernel
theorem dX4_weight_8 : decode cX4_weight 8 = .ok (.ireturn, 1) := by decide +kernel
theorem dX4_weight_9 : decode cX4_weight 9 = .ok (.aload_n 0, 1) := by decide +kernel
theorem dX4_weight_10 : decode cX4_weight 10 = .ok (.getfield 10, 3) := by decide +kernel
theorem dX4_weight_13 : decode cX4_weight 13 = .ok (.getfield 130, 3) := by decide +kernel
theorem dX4_weight_16 : decode cX4_weight 16 = .ok (.iload_n 1, 1) := by decide +kernel
theorem dX4_weight_17 : decode cX4_weight 17 = .ok (.iaload, 1) := by decide +kernel
theorem dX4_weight_18 : decode cX4_weight 18 = .ok (.istore_n 3, 1) := by decide +kernel
theorem dX4_weight_19 : decode cX4_weight 19 = .ok (.iload_n 2, 1) := by decide +kernel
theorem dX4_weight_20 : decode cX4_weight 20 = .ok (.iconst 0, 1) := by decide +kernel
theorem dX4_weight_21 : decode cX4_weight 21 = .ok (.bipush 9, 2) := by decide +kernel
theorem dX4_weight_23 : decode cX4_weight 23 = .ok (.invokestatic 46, 3) := by decide +kernel
theorem dX4_weight_26 : decode cX4_weight 26 = .ok (.ifCond .eq 18, 3) := by decide +kernel
theorem dX4_weight_29 : decode cX4_weight 29 = .ok (.aload_n 0, 1) := by decide +kernel
theorem dX4_weight_30 : decode cX4_weight 30 = .ok (.getfield 10, 3) := by decide +kernel
theorem dX4_weight_33 : decode cX4_weight 33 = .ok (.invokevirtual 134, 3) := by decide +kernel
theorem dX4_weight_36 : decode cX4_weight 36 = .ok (.iload_n 3, 1) := by decide +kernel
theorem dX4_weight_37 : decode cX4_weight 37 = .ok (.isub, 1) := by decide +kernel
theorem dX4_weight_38 : decode cX4_weight 38 = .ok (.iload_n 2, 1) := by decide +kernel
theorem dX4_weight_39 : decode cX4_weight 39 = .ok (.iadd, 1) := by decide +kernel
theorem dX4_weight_40 : decode cX4_weight 40 = .ok (.iconst 1, 1) := by decide +kernel
theorem dX4_weight_41 : decode cX4_weight 41 = .ok (.if_icmp .ge 6, 3) := by decide +kernel
theorem dX4_weight_44 : decode cX4_weight 44 = .ok (.bipush (-2), 2) := by decide +kernel
theorem dX4_weight_46 : decode cX4_weight 46 = .ok (.ireturn, 1) := by decide +kernel
theorem dX4_weight_47 : decode cX4_weight 47 = .ok (.aload_n 0, 1) := by decide +kernel
theorem dX4_weight_48 : decode cX4_weight 48 = .ok (.getfield 10, 3) := by decide +kernel
theorem dX4_weight_51 : decode cX4_weight 51 = .ok (.getfield 130, 3) := by decide +kernel
theorem dX4_weight_54 : decode cX4_weight 54 = .ok (.iload_n 1, 1) := by decide +kernel
theorem dX4_weight_55 : decode cX4_weight 55 = .ok (.iload_n 2, 1) := by decide +kernel
theorem dX4_weight_56 : decode cX4_weight 56 = .ok (.iastore, 1) := by decide +kernel
theorem dX4_weight_57 : decode cX4_weight 57 = .ok (.iload_n 3, 1) := by decide +kernel
theorem dX4_weight_58 : decode cX4_weight 58 = .ok (.ireturn, 1) := by decide +kernel
set_option maxRecDepth 20000 in
theorem ggX4_chance_X0_isThere : GoodIn wsX4_chance wsX0_isThere := goodIn_r _ [9, 10, 11, 12, 13, 14, 15, 75, 76, 77, 78, 79, 80, 81, 82, 83, 84, 85, 86] (by decide +kernel) (by decide +kernel)
set_option maxRecDepth 20000 in
theorem gX4_chance_X0_isThere : GoodIn wsX4_chance (wsV RX4 78 RX0 yX0_isThere wsX0_isThere) := goodIn_app (goodIn_of _ (by decide +kernel)) ggX4_chance_X0_isThere
set_option maxRecDepth 20000 in
theorem ggX4_chance_X4_within : GoodIn wsX4_chance wsX4_within := goodIn_r _ [13] (by decide +kernel) (by decide +kernel)
set_option maxRecDepth 20000 in
theorem gX4_chance_X4_within : GoodIn wsX4_chance (va_wsS RX4 46 yX4_within wsX4_within) := goodIn_app (goodIn_of _ (by decide +kernel)) ggX4_chance_X4_within
set_option maxRecDepth 20000 in
theorem ggX4_chance_X0_shareOf : GoodIn wsX4_chance wsX0_shareOf := goodIn_r _ [20, 21, 22, 23, 24, 8, 25, 10, 26, 27, 28, 29, 30, 31, 32, 33, 34, 35, 36, 37, 14, 12, 15, 38, 39, 40, 41, 42, 43, 44, 45, 46, 47, 48, 49, 50, 51, 52, 53, 54, 75, 76, 77, 78, 79, 80, 81, 82, 83, 84, 85, 86] (by decide +kernel) (by decide +kernel)
set_option maxRecDepth 20000 in
theorem gX4_chance_X0_shareOf : GoodIn wsX4_chance (wsV RX4 141 RX0 yX0_shareOf wsX0_shareOf) := goodIn_app (goodIn_of _ (by decide +kernel)) ggX4_chance_X0_shareOf
set_option maxRecDepth 20000 in
theorem ggX4_chance_X0_allShares : GoodIn wsX4_chance wsX0_allShares := goodIn_r _ [58, 59, 60, 61, 8, 62, 21, 75, 76, 77, 78, 79, 80, 81, 82, 83, 84, 85, 86] (by decide +kernel) (by decide +kernel)
set_option maxRecDepth 20000 in
theorem gX4_chance_X0_allShares : GoodIn wsX4_chance (wsV RX4 144 RX0 yX0_allShares wsX0_allShares) := goodIn_app (goodIn_of _ (by decide +kernel)) ggX4_chance_X0_allShares
set_option maxRecDepth 20000 in
theorem ggX4_chance_X4_fraction : GoodIn wsX4_chance wsX4_fraction := goodIn_r _ [65, 66, 67, 12, 68] (by decide +kernel) (by decide +kernel)
set_option maxRecDepth 20000 in
theorem gX4_chance_X4_fraction : GoodIn wsX4_chance (va_wsS RX4 147 yX4_fraction wsX4_fraction) := goodIn_app (goodIn_of _ (by decide +kernel)) ggX4_chance_X4_fraction
theorem dX4_chance_0 : decode cX4_chance 0 = .ok (.iload_n 1, 1) := by decide +kernel
theorem dX4_chance_1 : decode cX4_chance 1 = .ok (.bipush 6, 2) := by decide +kernel
theorem dX4_chance_3 : decode cX4_chance 3 = .ok (.if_icmp .eq 24, 3) := by decide +kernel
theorem dX4_chance_6 : decode cX4_chance 6 = .ok (.iload_n 1, 1) := by decide +kernel
theorem dX4_chance_7 : decode cX4_chance 7 = .ok (.bipush 7, 2) := by decide +kernel
theorem dX4_chance_9 : decode cX4_chance 9 = .ok (.if_icmp .eq 18, 3) := by decide +kernel
theorem dX4_chance_12 : decode cX4_chance 12 = .ok (.aload_n 0, 1) := by decide +kernel
theorem dX4_chance_13 : decode cX4_chance 13 = .ok (.getfield 10, 3) := by decide +kernel
theorem dX4_chance_16 : decode cX4_chance 16 = .ok (.iload_n 1, 1) := by decide +kernel
theorem dX4_chance_17 : decode cX4_chance 17 = .ok (.invokevirtual 78, 3) := by decide +kernel
theorem dX4_chance_20 : decode cX4_chance 20 = .ok (.ifCond .ne 7, 3) := by decide +kernel
theorem dX4_chance_23 : decode cX4_chance 23 = .ok (.ldc2_w 137, 3) := by decide +kernel
theorem dX4_chance_26 : decode cX4_chance 26 = .ok (.lreturn, 1) := by decide +kernel
theorem dX4_chance_27 : decode cX4_chance 27 = .ok (.iload_n 2, 1) := by decide +kernel
theorem dX4_chance_28 : decode cX4_chance 28 = .ok (.iconst 0, 1) := by decide +kernel
theorem dX4_chance_29 : decode cX4_chance 29 = .ok (.iconst 1, 1) := by decide +kernel
theorem dX4_chance_30 : decode cX4_chance 30 = .ok (.invokestatic 46, 3) := by decide +kernel
theorem dX4_chance_33 : decode cX4_chance 33 = .ok (.ifCond .ne 7, 3) := by decide +kernel
theorem dX4_chance_36 : decode cX4_chance 36 = .ok (.ldc2_w 139, 3) := by decide +kernel
theorem dX4_chance_39 : decode cX4_chance 39 = .ok (.lreturn, 1) := by decide +kernel
theorem dX4_chance_40 : decode cX4_chance 40 = .ok (.iload_n 1, 1) := by decide +kernel
theorem dX4_chance_41 : decode cX4_chance 41 = .ok (.bipush 6, 2) := by decide +kernel
theorem dX4_chance_43 : decode cX4_chance 43 = .ok (.if_icmp .ne 15, 3) := by decide +kernel
theorem dX4_chance_46 : decode cX4_chance 46 = .ok (.aload_n 0, 1) := by decide +kernel
theorem dX4_chance_47 : decode cX4_chance 47 = .ok (.getfield 10, 3) := by decide +kernel
theorem dX4_chance_50 : decode cX4_chance 50 = .ok (.getfield 66, 3) := by decide +kernel
theorem dX4_chance_53 : decode cX4_chance 53 = .ok (.iconst (-1), 1) := by decide +kernel
theorem dX4_chance_54 : decode cX4_chance 54 = .ok (.ixor, 1) := by decide +kernel
theorem dX4_chance_55 : decode cX4_chance 55 = .ok (.goto 22, 3) := by decide +kernel
theorem dX4_chance_58 : decode cX4_chance 58 = .ok (.iload_n 1, 1) := by decide +kernel
theorem dX4_chance_59 : decode cX4_chance 59 = .ok (.bipush 7, 2) := by decide +kernel
theorem dX4_chance_61 : decode cX4_chance 61 = .ok (.if_icmp .ne 13, 3) := by decide +kernel
theorem dX4_chance_64 : decode cX4_chance 64 = .ok (.aload_n 0, 1) := by decide +kernel
theorem dX4_chance_65 : decode cX4_chance 65 = .ok (.getfield 10, 3) := by decide +kernel
theorem dX4_chance_68 : decode cX4_chance 68 = .ok (.getfield 66, 3) := by decide +kernel
theorem dX4_chance_71 : decode cX4_chance 71 = .ok (.goto 6, 3) := by decide +kernel
theorem dX4_chance_74 : decode cX4_chance 74 = .ok (.iconst 1, 1) := by decide +kernel
theorem dX4_chance_75 : decode cX4_chance 75 = .ok (.iload_n 1, 1) := by decide +kernel
theorem dX4_chance_76 : decode cX4_chance 76 = .ok (.ishl, 1) := by decide +kernel
theorem dX4_chance_77 : decode cX4_chance 77 = .ok (.istore_n 3, 1) := by decide +kernel
theorem dX4_chance_78 : decode cX4_chance 78 = .ok (.aload_n 0, 1) := by decide +kernel
theorem dX4_chance_79 : decode cX4_chance 79 = .ok (.getfield 10, 3) := by decide +kernel
theorem dX4_chance_82 : decode cX4_chance 82 = .ok (.iload_n 3, 1) := by decide +kernel
theorem dX4_chance_83 : decode cX4_chance 83 = .ok (.invokevirtual 141, 3) := by decide +kernel
theorem dX4_chance_86 : decode cX4_chance 86 = .ok (.aload_n 0, 1) := by decide +kernel
theorem dX4_chance_87 : decode cX4_chance 87 = .ok (.getfield 10, 3) := by decide +kernel
theorem dX4_chance_90 : decode cX4_chance 90 = .ok (.invokevirtual 144, 3) := by decide +kernel
theorem dX4_chance_93 : decode cX4_chance 93 = .ok (.iload_n 2, 1) := by decide +kernel
theorem dX4_chance_94 : decode cX4_chance 94 = .ok (.invokestatic 147, 3) := by decide +kernel
theorem dX4_chance_97 : decode cX4_chance 97 = .ok (.lreturn, 1) := by decide +kernel
set_option maxRecDepth 20000 in
theorem ggX4_best_X0_isThere : GoodIn wsX4_best wsX0_isThere := goodIn_r _ [6, 7, 8, 9, 10, 11, 12, 83, 84, 85, 86, 87, 88, 89, 90, 91, 92, 93, 94] (by decide +kernel) (by decide +kernel)
set_option maxRecDepth 20000 in
theorem gX4_best_X0_isThere : GoodIn wsX4_best (wsV RX4 78 RX0 yX0_isThere wsX0_isThere) := goodIn_app (goodIn_of _ (by decide +kernel)) ggX4_best_X0_isThere
set_option maxRecDepth 20000 in
theorem ggX4_best_X4_bestPlace : GoodIn wsX4_best wsX4_bestPlace := goodIn_r _ [16, 1, 17, 18, 19, 20, 9, 21, 22, 23, 24, 25, 5, 26, 27, 28, 7, 29, 30, 31, 32, 33, 34, 35, 36, 37, 38, 39, 40, 41, 42, 43, 44, 45, 8, 10, 46, 47, 48, 49, 50, 51, 52, 53, 54, 55, 56, 57, 58, 59, 60, 61, 62, 11, 12, 63, 64, 65, 66, 67, 68, 69, 70, 71, 72, 73, 74, 75, 76, 77, 78, 79, 80, 81, 82, 83, 84, 85, 86, 87, 88, 89, 90, 91, 92, 93, 94] (by decide +kernel) (by decide +kernel)
set_option maxRecDepth 20000 in
theorem gX4_best_X4_bestPlace : GoodIn wsX4_best (wsV RX4 151 RX4 yX4_bestPlace wsX4_bestPlace) := goodIn_app (goodIn_of _ (by decide +kernel)) ggX4_best_X4_bestPlace
theorem dX4_best_0 : decode cX4_best 0 = .ok (.aload_n 0, 1) := by decide +kernel
theorem dX4_best_1 : decode cX4_best 1 = .ok (.getfield 10, 3) := by decide +kernel
theorem dX4_best_4 : decode cX4_best 4 = .ok (.iload_n 1, 1) := by decide +kernel
theorem dX4_best_5 : decode cX4_best 5 = .ok (.invokevirtual 78, 3) := by decide +kernel
theorem dX4_best_8 : decode cX4_best 8 = .ok (.ifCond .ne 5, 3) := by decide +kernel
theorem dX4_best_11 : decode cX4_best 11 = .ok (.iconst (-1), 1) := by decide +kernel
theorem dX4_best_12 : decode cX4_best 12 = .ok (.ireturn, 1) := by decide +kernel
theorem dX4_best_13 : decode cX4_best 13 = .ok (.aload_n 0, 1) := by decide +kernel
theorem dX4_best_14 : decode cX4_best 14 = .ok (.iload_n 1, 1) := by decide +kernel
theorem dX4_best_15 : decode cX4_best 15 = .ok (.invokevirtual 151, 3) := by decide +kernel
theorem dX4_best_18 : decode cX4_best 18 = .ok (.ireturn, 1) := by decide +kernel
set_option maxRecDepth 20000 in
theorem ggX4_bestChance_X0_isThere : GoodIn wsX4_bestChance wsX0_isThere := goodIn_r _ [9, 10, 11, 12, 13, 14, 15, 100, 101, 102, 103, 104, 105, 106, 107, 108, 109, 110, 111] (by decide +kernel) (by decide +kernel)
set_option maxRecDepth 20000 in
theorem gX4_bestChance_X0_isThere : GoodIn wsX4_bestChance (wsV RX4 78 RX0 yX0_isThere wsX0_isThere) := goodIn_app (goodIn_of _ (by decide +kernel)) ggX4_bestChance_X0_isThere
set_option maxRecDepth 20000 in
theorem ggX4_bestChance_X4_within : GoodIn wsX4_bestChance wsX4_within := goodIn_r _ [13] (by decide +kernel) (by decide +kernel)
set_option maxRecDepth 20000 in
theorem gX4_bestChance_X4_within : GoodIn wsX4_bestChance (va_wsS RX4 46 yX4_within wsX4_within) := goodIn_app (goodIn_of _ (by decide +kernel)) ggX4_bestChance_X4_within
set_option maxRecDepth 20000 in
theorem ggX4_bestChance_X4_bestPlace : GoodIn wsX4_bestChance wsX4_bestPlace := goodIn_r _ [20, 1, 4, 21, 22, 23, 12, 24, 25, 26, 27, 28, 8, 29, 30, 31, 10, 32, 33, 34, 35, 36, 37, 38, 39, 40, 41, 42, 43, 44, 45, 46, 47, 48, 11, 13, 49, 50, 51, 52, 53, 54, 55, 56, 57, 58, 59, 60, 61, 62, 63, 64, 65, 14, 15, 66, 67, 68, 69, 70, 71, 72, 73, 74, 75, 76, 77, 78, 79, 94, 95, 96, 97, 98, 99, 100, 101, 102, 103, 104, 105, 106, 107, 108, 109, 110, 111] (by decide +kernel) (by decide +kernel)
set_option maxRecDepth 20000 in
theorem gX4_bestChance_X4_bestPlace : GoodIn wsX4_bestChance (wsV RX4 151 RX4 yX4_bestPlace wsX4_bestPlace) := goodIn_app (goodIn_of _ (by decide +kernel)) ggX4_bestChance_X4_bestPlace
set_option maxRecDepth 20000 in
theorem ggX4_bestChance_X4_trialShare : GoodIn wsX4_bestChance wsX4_trialShare := goodIn_r _ [24, 25, 1, 26, 27, 28, 8, 29, 30, 31, 10, 32, 33, 34, 35, 36, 37, 38, 39, 40, 41, 42, 43, 44, 45, 46, 47, 48, 11, 12, 13, 49, 50, 51, 52, 53, 54, 55, 56, 57, 58, 59, 60, 61, 62, 63, 64, 65, 14, 15, 66, 67, 68, 69, 70, 71, 72, 73, 74, 75, 76, 77, 78, 79, 94, 95, 96, 97, 98, 99, 100, 101, 102, 103, 104, 105, 106, 107, 108, 109, 110, 111] (by decide +kernel) (by decide +kernel)
set_option maxRecDepth 20000 in
theorem gX4_bestChance_X4_trialShare : GoodIn wsX4_bestChance (wsV RX4 157 RX4 yX4_trialShare wsX4_trialShare) := goodIn_app (goodIn_of _ (by decide +kernel)) ggX4_bestChance_X4_trialShare
set_option maxRecDepth 20000 in
theorem ggX4_bestChance_X0_allShares : GoodIn wsX4_bestChance wsX0_allShares := goodIn_r _ [83, 84, 85, 86, 8, 87, 42, 100, 101, 102, 103, 104, 105, 106, 107, 108, 109, 110, 111] (by decide +kernel) (by decide +kernel)
set_option maxRecDepth 20000 in
theorem gX4_bestChance_X0_allShares : GoodIn wsX4_bestChance (wsV RX4 144 RX0 yX0_allShares wsX0_allShares) := goodIn_app (goodIn_of _ (by decide +kernel)) ggX4_bestChance_X0_allShares
set_option maxRecDepth 20000 in
theorem ggX4_bestChance_X4_fraction : GoodIn wsX4_bestChance wsX4_fraction := goodIn_r _ [90, 91, 92, 12, 93] (by decide +kernel) (by decide +kernel)
set_option maxRecDepth 20000 in
theorem gX4_bestChance_X4_fraction : GoodIn wsX4_bestChance (va_wsS RX4 147 yX4_fraction wsX4_fraction) := goodIn_app (goodIn_of _ (by decide +kernel)) ggX4_bestChance_X4_fraction
theorem dX4_bestChance_0 : decode cX4_bestChance 0 = .ok (.aload_n 0, 1) := by decide +kernel
theorem dX4_bestChance_1 : decode cX4_bestChance 1 = .ok (.getfield 10, 3) := by decide +kernel
theorem dX4_bestChance_4 : decode cX4_bestChance 4 = .ok (.iload_n 1, 1) := by decide +kernel
theorem dX4_bestChance_5 : decode cX4_bestChance 5 = .ok (.invokevirtual 78, 3) := by decide +kernel
theorem dX4_bestChance_8 : decode cX4_bestChance 8 = .ok (.ifCond .ne 7, 3) := by decide +kernel
theorem dX4_bestChance_11 : decode cX4_bestChance 11 = .ok (.ldc2_w 137, 3) := by decide +kernel
theorem dX4_bestChance_14 : decode cX4_bestChance 14 = .ok (.lreturn, 1) := by decide +kernel
theorem dX4_bestChance_15 : decode cX4_bestChance 15 = .ok (.iload_n 2, 1) := by decide +kernel
theorem dX4_bestChance_16 : decode cX4_bestChance 16 = .ok (.iconst 0, 1) := by decide +kernel
theorem dX4_bestChance_17 : decode cX4_bestChance 17 = .ok (.iconst 1, 1) := by decide +kernel
theorem dX4_bestChance_18 : decode cX4_bestChance 18 = .ok (.invokestatic 46, 3) := by decide +kernel
theorem dX4_bestChance_21 : decode cX4_bestChance 21 = .ok (.ifCond .ne 7, 3) := by decide +kernel
theorem dX4_bestChance_24 : decode cX4_bestChance 24 = .ok (.ldc2_w 139, 3) := by decide +kernel
theorem dX4_bestChance_27 : decode cX4_bestChance 27 = .ok (.lreturn, 1) := by decide +kernel
theorem dX4_bestChance_28 : decode cX4_bestChance 28 = .ok (.aload_n 0, 1) := by decide +kernel
theorem dX4_bestChance_29 : decode cX4_bestChance 29 = .ok (.iload_n 1, 1) := by decide +kernel
theorem dX4_bestChance_30 : decode cX4_bestChance 30 = .ok (.aload_n 0, 1) := by decide +kernel
theorem dX4_bestChance_31 : decode cX4_bestChance 31 = .ok (.iload_n 1, 1) := by decide +kernel
theorem dX4_bestChance_32 : decode cX4_bestChance 32 = .ok (.invokevirtual 151, 3) := by decide +kernel
theorem dX4_bestChance_35 : decode cX4_bestChance 35 = .ok (.aload_n 0, 1) := by decide +kernel
theorem dX4_bestChance_36 : decode cX4_bestChance 36 = .ok (.getfield 10, 3) := by decide +kernel
theorem dX4_bestChance_39 : decode cX4_bestChance 39 = .ok (.getfield 154, 3) := by decide +kernel
theorem dX4_bestChance_42 : decode cX4_bestChance 42 = .ok (.iload_n 1, 1) := by decide +kernel
theorem dX4_bestChance_43 : decode cX4_bestChance 43 = .ok (.iaload, 1) := by decide +kernel
theorem dX4_bestChance_44 : decode cX4_bestChance 44 = .ok (.invokevirtual 157, 3) := by decide +kernel
theorem dX4_bestChance_47 : decode cX4_bestChance 47 = .ok (.istore_n 3, 1) := by decide +kernel
theorem dX4_bestChance_48 : decode cX4_bestChance 48 = .ok (.iload_n 3, 1) := by decide +kernel
theorem dX4_bestChance_49 : decode cX4_bestChance 49 = .ok (.aload_n 0, 1) := by decide +kernel
theorem dX4_bestChance_50 : decode cX4_bestChance 50 = .ok (.getfield 10, 3) := by decide +kernel
theorem dX4_bestChance_53 : decode cX4_bestChance 53 = .ok (.invokevirtual 144, 3) := by decide +kernel
theorem dX4_bestChance_56 : decode cX4_bestChance 56 = .ok (.iload_n 2, 1) := by decide +kernel
theorem dX4_bestChance_57 : decode cX4_bestChance 57 = .ok (.invokestatic 147, 3) := by decide +kernel
theorem dX4_bestChance_60 : decode cX4_bestChance 60 = .ok (.lreturn, 1) := by decide +kernel
set_option maxRecDepth 20000 in
theorem ggX4_rests_J6_bitCount_0f7a4 : GoodIn wsX4_rests wsJ6_bitCount_0f7a4 := goodIn_r _ [7, 8, 9, 10] (by decide +kernel) (by decide +kernel)
set_option maxRecDepth 20000 in
theorem gX4_rests_J6_bitCount_0f7a4 : GoodIn wsX4_rests (va_wsS RX4 72 yJ6_bitCount_0f7a4 wsJ6_bitCount_0f7a4) := goodIn_app (goodIn_of _ (by decide +kernel)) ggX4_rests_J6_bitCount_0f7a4
set_option maxRecDepth 20000 in
theorem ggX4_rests_X3_weigh : GoodIn wsX4_rests wsX3_weigh := goodIn_r _ [15, 16, 17, 18, 19, 20, 21, 22, 23, 24, 25, 26, 27, 28, 29, 30, 14, 31, 32, 33, 34, 35, 36, 37, 38, 39, 40, 41, 42, 43, 44, 45, 46, 47, 48, 49, 50, 51, 52, 53, 54, 55, 56, 57, 58, 59, 60, 61, 62, 63, 64, 65, 66, 67, 68, 69, 70, 71, 72, 73, 74, 75, 76, 77, 78, 79, 98, 99, 100, 101, 102, 103, 104, 105, 106, 107, 108, 109, 110, 111, 112, 113, 114] (by decide +kernel) (by decide +kernel)
set_option maxRecDepth 20000 in
theorem gX4_rests_X3_weigh : GoodIn wsX4_rests (wsV RX4 161 RX3 yX3_weigh wsX3_weigh) := goodIn_app (goodIn_of _ (by decide +kernel)) ggX4_rests_X3_weigh
set_option maxRecDepth 20000 in
theorem ggX4_rests_X3_howMany : GoodIn wsX4_rests wsX3_howMany := goodIn_r _ [83, 23, 84, 85, 86, 14, 87, 76, 22, 51, 52, 53, 110, 111, 112, 113, 114] (by decide +kernel) (by decide +kernel)
set_option maxRecDepth 20000 in
theorem gX4_rests_X3_howMany : GoodIn wsX4_rests (wsV RX4 164 RX3 yX3_howMany wsX3_howMany) := goodIn_app (goodIn_of _ (by decide +kernel)) ggX4_rests_X3_howMany
set_option maxRecDepth 20000 in
theorem ggX4_rests_X3_row : GoodIn wsX4_rests wsX3_row := goodIn_r _ [91, 23, 84, 85, 86, 14, 87, 76, 22, 51, 52, 53, 110, 111, 112, 113, 114] (by decide +kernel) (by decide +kernel)
set_option maxRecDepth 20000 in
theorem gX4_rests_X3_row : GoodIn wsX4_rests (wsV RX4 167 RX3 yX3_row wsX3_row) := goodIn_app (goodIn_of _ (by decide +kernel)) ggX4_rests_X3_row
theorem dX4_rests_0 : decode cX4_rests 0 = .ok (.aload_n 0, 1) := by decide +kernel
theorem dX4_rests_1 : decode cX4_rests 1 = .ok (.getfield 10, 3) := by decide +kernel
theorem dX4_rests_4 : decode cX4_rests 4 = .ok (.getfield 58, 3) := by decide +kernel
theorem dX4_rests_7 : decode cX4_rests 7 = .ok (.invokestatic 72, 3) := by decide +kernel
theorem dX4_rests_10 : decode cX4_rests 10 = .ok (.iconst 3, 1) := by decide +kernel
theorem dX4_rests_11 : decode cX4_rests 11 = .ok (.if_icmp .le 6, 3) := by decide +kernel
theorem dX4_rests_14 : decode cX4_rests 14 = .ok (.bipush (-4), 2) := by decide +kernel
theorem dX4_rests_16 : decode cX4_rests 16 = .ok (.ireturn, 1) := by decide +kernel
theorem dX4_rests_17 : decode cX4_rests 17 = .ok (.aload_n 0, 1) := by decide +kernel
theorem dX4_rests_18 : decode cX4_rests 18 = .ok (.getfield 42, 3) := by decide +kernel
theorem dX4_rests_21 : decode cX4_rests 21 = .ok (.aload_n 0, 1) := by decide +kernel
theorem dX4_rests_22 : decode cX4_rests 22 = .ok (.getfield 10, 3) := by decide +kernel
theorem dX4_rests_25 : decode cX4_rests 25 = .ok (.invokevirtual 161, 3) := by decide +kernel
theorem dX4_rests_28 : decode cX4_rests 28 = .ok (.iload_n 1, 1) := by decide +kernel
theorem dX4_rests_29 : decode cX4_rests 29 = .ok (.iconst (-1), 1) := by decide +kernel
theorem dX4_rests_30 : decode cX4_rests 30 = .ok (.if_icmp .ne 13, 3) := by decide +kernel
theorem dX4_rests_33 : decode cX4_rests 33 = .ok (.aload_n 0, 1) := by decide +kernel
theorem dX4_rests_34 : decode cX4_rests 34 = .ok (.getfield 42, 3) := by decide +kernel
theorem dX4_rests_37 : decode cX4_rests 37 = .ok (.invokevirtual 164, 3) := by decide +kernel
theorem dX4_rests_40 : decode cX4_rests 40 = .ok (.goto 11, 3) := by decide +kernel
theorem dX4_rests_43 : decode cX4_rests 43 = .ok (.aload_n 0, 1) := by decide +kernel
theorem dX4_rests_44 : decode cX4_rests 44 = .ok (.getfield 42, 3) := by decide +kernel
theorem dX4_rests_47 : decode cX4_rests 47 = .ok (.iload_n 1, 1) := by decide +kernel
theorem dX4_rests_48 : decode cX4_rests 48 = .ok (.invokevirtual 167, 3) := by decide +kernel
theorem dX4_rests_51 : decode cX4_rests 51 = .ok (.ireturn, 1) := by decide +kernel
set_option maxRecDepth 20000 in
theorem ggX4_coup_X0_isThere : GoodIn wsX4_coup wsX0_isThere := goodIn_r _ [7, 8, 9, 10, 11, 12, 13, 52, 53, 54, 55, 56, 57, 58, 59, 60, 61, 62, 63] (by decide +kernel) (by decide +kernel)
set_option maxRecDepth 20000 in
theorem gX4_coup_X0_isThere : GoodIn wsX4_coup (wsV RX4 78 RX0 yX0_isThere wsX0_isThere) := goodIn_app (goodIn_of _ (by decide +kernel)) ggX4_coup_X0_isThere
set_option maxRecDepth 20000 in
theorem ggX4_coup_X0_umbrellas : GoodIn wsX4_coup wsX0_umbrellas := goodIn_r _ [17, 8, 18, 52, 53, 54, 55, 56, 57, 58, 59, 60, 61, 62, 63] (by decide +kernel) (by decide +kernel)
set_option maxRecDepth 20000 in
theorem gX4_coup_X0_umbrellas : GoodIn wsX4_coup (wsV RX4 173 RX0 yX0_umbrellas wsX0_umbrellas) := goodIn_app (goodIn_of _ (by decide +kernel)) ggX4_coup_X0_umbrellas
set_option maxRecDepth 20000 in
theorem ggX4_coup_X0_sprinkled : GoodIn wsX4_coup wsX0_sprinkled := goodIn_r _ [22, 23, 24, 10, 25, 26, 27, 28, 6, 29, 30, 31, 32, 33, 34, 35, 12, 13, 36, 37, 38, 39, 40, 41, 42, 43, 44, 45, 52, 53, 54, 55, 56, 57, 58, 59, 60, 61, 62, 63] (by decide +kernel) (by decide +kernel)
set_option maxRecDepth 20000 in
theorem gX4_coup_X0_sprinkled : GoodIn wsX4_coup (wsV RX4 176 RX0 yX0_sprinkled wsX0_sprinkled) := goodIn_app (goodIn_of _ (by decide +kernel)) ggX4_coup_X0_sprinkled
theorem dX4_coup_0 : decode cX4_coup 0 = .ok (.aload_n 0, 1) := by decide +kernel
theorem dX4_coup_1 : decode cX4_coup 1 = .ok (.getfield 10, 3) := by decide +kernel
theorem dX4_coup_4 : decode cX4_coup 4 = .ok (.iload_n 1, 1) := by decide +kernel
theorem dX4_coup_5 : decode cX4_coup 5 = .ok (.invokevirtual 78, 3) := by decide +kernel
theorem dX4_coup_8 : decode cX4_coup 8 = .ok (.ifCond .ne 5, 3) := by decide +kernel
theorem dX4_coup_11 : decode cX4_coup 11 = .ok (.iconst (-1), 1) := by decide +kernel
theorem dX4_coup_12 : decode cX4_coup 12 = .ok (.ireturn, 1) := by decide +kernel
theorem dX4_coup_13 : decode cX4_coup 13 = .ok (.aload_n 0, 1) := by decide +kernel
theorem dX4_coup_14 : decode cX4_coup 14 = .ok (.getfield 10, 3) := by decide +kernel
theorem dX4_coup_17 : decode cX4_coup 17 = .ok (.getfield 170, 3) := by decide +kernel
theorem dX4_coup_20 : decode cX4_coup 20 = .ok (.iload_n 1, 1) := by decide +kernel
theorem dX4_coup_21 : decode cX4_coup 21 = .ok (.iaload, 1) := by decide +kernel
theorem dX4_coup_22 : decode cX4_coup 22 = .ok (.istore_n 2, 1) := by decide +kernel
theorem dX4_coup_23 : decode cX4_coup 23 = .ok (.aload_n 0, 1) := by decide +kernel
theorem dX4_coup_24 : decode cX4_coup 24 = .ok (.getfield 10, 3) := by decide +kernel
theorem dX4_coup_27 : decode cX4_coup 27 = .ok (.aload_n 0, 1) := by decide +kernel
theorem dX4_coup_28 : decode cX4_coup 28 = .ok (.getfield 10, 3) := by decide +kernel
theorem dX4_coup_31 : decode cX4_coup 31 = .ok (.invokevirtual 173, 3) := by decide +kernel
theorem dX4_coup_34 : decode cX4_coup 34 = .ok (.iload_n 2, 1) := by decide +kernel
theorem dX4_coup_35 : decode cX4_coup 35 = .ok (.invokevirtual 176, 3) := by decide +kernel
theorem dX4_coup_38 : decode cX4_coup 38 = .ok (.iconst 1, 1) := by decide +kernel
theorem dX4_coup_39 : decode cX4_coup 39 = .ok (.iload_n 1, 1) := by decide +kernel
theorem dX4_coup_40 : decode cX4_coup 40 = .ok (.ishl, 1) := by decide +kernel
theorem dX4_coup_41 : decode cX4_coup 41 = .ok (.if_icmp .ne 7, 3) := by decide +kernel
theorem dX4_coup_44 : decode cX4_coup 44 = .ok (.iload_n 2, 1) := by decide +kernel
theorem dX4_coup_45 : decode cX4_coup 45 = .ok (.goto 5, 3) := by decide +kernel
theorem dX4_coup_48 : decode cX4_coup 48 = .ok (.bipush (-6), 2) := by decide +kernel
theorem dX4_coup_50 : decode cX4_coup 50 = .ok (.ireturn, 1) := by decide +kernel
set_option maxRecDepth 20000 in
theorem ggX4_quick_X0_isThere : GoodIn wsX4_quick wsX0_isThere := goodIn_r _ [7, 8, 9, 10, 11, 12, 13, 88, 89, 90, 91, 92, 93, 94, 95, 96, 97, 98, 99] (by decide +kernel) (by decide +kernel)
set_option maxRecDepth 20000 in
theorem gX4_quick_X0_isThere : GoodIn wsX4_quick (wsV RX4 78 RX0 yX0_isThere wsX0_isThere) := goodIn_app (goodIn_of _ (by decide +kernel)) ggX4_quick_X0_isThere
set_option maxRecDepth 20000 in
theorem ggX4_quick_X4_within : GoodIn wsX4_quick wsX4_within := goodIn_r _ [11] (by decide +kernel) (by decide +kernel)
set_option maxRecDepth 20000 in
theorem gX4_quick_X4_within : GoodIn wsX4_quick (va_wsS RX4 46 yX4_within wsX4_within) := goodIn_app (goodIn_of _ (by decide +kernel)) ggX4_quick_X4_within
set_option maxRecDepth 20000 in
theorem ggX4_quick_X0_allShares : GoodIn wsX4_quick wsX0_allShares := goodIn_r _ [18, 19, 20, 21, 6, 22, 23, 88, 89, 90, 91, 92, 93, 94, 95, 96, 97, 98, 99] (by decide +kernel) (by decide +kernel)
set_option maxRecDepth 20000 in
theorem gX4_quick_X0_allShares : GoodIn wsX4_quick (wsV RX4 144 RX0 yX0_allShares wsX0_allShares) := goodIn_app (goodIn_of _ (by decide +kernel)) ggX4_quick_X0_allShares
set_option maxRecDepth 20000 in
theorem ggX4_quick_X4_trialShare : GoodIn wsX4_quick wsX4_trialShare := goodIn_r _ [27, 28, 1, 29, 30, 31, 6, 32, 33, 34, 8, 35, 36, 37, 38, 39, 40, 41, 42, 43, 44, 23, 45, 46, 47, 48, 49, 50, 9, 10, 11, 51, 52, 53, 54, 55, 56, 57, 58, 59, 60, 61, 62, 63, 64, 65, 66, 67, 12, 13, 68, 69, 70, 71, 72, 73, 74, 75, 76, 77, 78, 79, 80, 81, 82, 83, 84, 85, 86, 87, 88, 89, 90, 91, 92, 93, 94, 95, 96, 97, 98, 99] (by decide +kernel) (by decide +kernel)
set_option maxRecDepth 20000 in
theorem gX4_quick_X4_trialShare : GoodIn wsX4_quick (wsV RX4 157 RX4 yX4_trialShare wsX4_trialShare) := goodIn_app (goodIn_of _ (by decide +kernel)) ggX4_quick_X4_trialShare
theorem dX4_quick_0 : decode cX4_quick 0 = .ok (.aload_n 0, 1) := by decide +kernel
theorem dX4_quick_1 : decode cX4_quick 1 = .ok (.getfield 10, 3) := by decide +kernel
theorem dX4_quick_4 : decode cX4_quick 4 = .ok (.iload_n 1, 1) := by decide +kernel
theorem dX4_quick_5 : decode cX4_quick 5 = .ok (.invokevirtual 78, 3) := by decide +kernel
theorem dX4_quick_8 : decode cX4_quick 8 = .ok (.ifCond .ne 5, 3) := by decide +kernel
theorem dX4_quick_11 : decode cX4_quick 11 = .ok (.iconst (-1), 1) := by decide +kernel
theorem dX4_quick_12 : decode cX4_quick 12 = .ok (.ireturn, 1) := by decide +kernel
theorem dX4_quick_13 : decode cX4_quick 13 = .ok (.iload_n 3, 1) := by decide +kernel
theorem dX4_quick_14 : decode cX4_quick 14 = .ok (.iconst 1, 1) := by decide +kernel
theorem dX4_quick_15 : decode cX4_quick 15 = .ok (.bipush 100, 2) := by decide +kernel
theorem dX4_quick_17 : decode cX4_quick 17 = .ok (.invokestatic 46, 3) := by decide +kernel
theorem dX4_quick_20 : decode cX4_quick 20 = .ok (.ifCond .eq 12, 3) := by decide +kernel
theorem dX4_quick_23 : decode cX4_quick 23 = .ok (.iload_n 2, 1) := by decide +kernel
theorem dX4_quick_24 : decode cX4_quick 24 = .ok (.iconst 0, 1) := by decide +kernel
theorem dX4_quick_25 : decode cX4_quick 25 = .ok (.iload_n 3, 1) := by decide +kernel
theorem dX4_quick_26 : decode cX4_quick 26 = .ok (.invokestatic 46, 3) := by decide +kernel
theorem dX4_quick_29 : decode cX4_quick 29 = .ok (.ifCond .ne 6, 3) := by decide +kernel
theorem dX4_quick_32 : decode cX4_quick 32 = .ok (.bipush (-2), 2) := by decide +kernel
theorem dX4_quick_34 : decode cX4_quick 34 = .ok (.ireturn, 1) := by decide +kernel
theorem dX4_quick_35 : decode cX4_quick 35 = .ok (.iload_n 2, 1) := by decide +kernel
theorem dX4_quick_36 : decode cX4_quick 36 = .ok (.aload_n 0, 1) := by decide +kernel
theorem dX4_quick_37 : decode cX4_quick 37 = .ok (.getfield 10, 3) := by decide +kernel
theorem dX4_quick_40 : decode cX4_quick 40 = .ok (.invokevirtual 144, 3) := by decide +kernel
theorem dX4_quick_43 : decode cX4_quick 43 = .ok (.imul, 1) := by decide +kernel
theorem dX4_quick_44 : decode cX4_quick 44 = .ok (.istore 4, 2) := by decide +kernel
theorem dX4_quick_46 : decode cX4_quick 46 = .ok (.bipush 9, 2) := by decide +kernel
theorem dX4_quick_48 : decode cX4_quick 48 = .ok (.istore 5, 2) := by decide +kernel
theorem dX4_quick_50 : decode cX4_quick 50 = .ok (.iload 5, 2) := by decide +kernel
theorem dX4_quick_52 : decode cX4_quick 52 = .ok (.ifCond .lt 35, 3) := by decide +kernel
theorem dX4_quick_55 : decode cX4_quick 55 = .ok (.aload_n 0, 1) := by decide +kernel
theorem dX4_quick_56 : decode cX4_quick 56 = .ok (.iload_n 1, 1) := by decide +kernel
theorem dX4_quick_57 : decode cX4_quick 57 = .ok (.aload_n 0, 1) := by decide +kernel
theorem dX4_quick_58 : decode cX4_quick 58 = .ok (.getfield 10, 3) := by decide +kernel
theorem dX4_quick_61 : decode cX4_quick 61 = .ok (.getfield 170, 3) := by decide +kernel
theorem dX4_quick_64 : decode cX4_quick 64 = .ok (.iload_n 1, 1) := by decide +kernel
theorem dX4_quick_65 : decode cX4_quick 65 = .ok (.iaload, 1) := by decide +kernel
theorem dX4_quick_66 : decode cX4_quick 66 = .ok (.iload 5, 2) := by decide +kernel
theorem dX4_quick_68 : decode cX4_quick 68 = .ok (.invokevirtual 157, 3) := by decide +kernel
theorem dX4_quick_71 : decode cX4_quick 71 = .ok (.iload_n 3, 1) := by decide +kernel
theorem dX4_quick_72 : decode cX4_quick 72 = .ok (.imul, 1) := by decide +kernel
theorem dX4_quick_73 : decode cX4_quick 73 = .ok (.iload 4, 2) := by decide +kernel
theorem dX4_quick_75 : decode cX4_quick 75 = .ok (.if_icmp .lt 6, 3) := by decide +kernel
theorem dX4_quick_78 : decode cX4_quick 78 = .ok (.iload 5, 2) := by decide +kernel
end
section
theorem dX4_quick_80 : decode cX4_quick 80 = .ok (.ireturn, 1) := by decide +kernel
theorem dX4_quick_81 : decode cX4_quick 81 = .ok (.iinc 5 (-1), 3) := by decide +kernel
theorem dX4_quick_84 : decode cX4_quick 84 = .ok (.goto (-34), 3) := by decide +kernel
theorem dX4_quick_87 : decode cX4_quick 87 = .ok (.bipush (-6), 2) := by decide +kernel
theorem dX4_quick_89 : decode cX4_quick 89 = .ok (.ireturn, 1) := by decide +kernel
set_option maxRecDepth 20000 in
theorem ggX4_bestPlace_X4_trialShare : GoodIn wsX4_bestPlace wsX4_trialShare := goodIn_r _ [7, 8, 1, 9, 10, 11, 12, 13, 14, 15, 16, 17, 18, 19, 20, 21, 22, 23, 24, 25, 26, 27, 28, 29, 30, 31, 32, 33, 34, 6, 35, 36, 37, 38, 39, 40, 41, 42, 43, 44, 45, 46, 47, 48, 49, 50, 51, 52, 53, 54, 55, 56, 57, 58, 59, 60, 61, 62, 63, 64, 65, 66, 67, 68, 69, 70, 71, 72, 73, 74, 75, 76, 77, 78, 79, 80, 81, 82, 83, 84, 85, 86] (by decide +kernel) (by decide +kernel)
set_option maxRecDepth 20000 in
theorem gX4_bestPlace_X4_trialShare : GoodIn wsX4_bestPlace (wsV RX4 157 RX4 yX4_trialShare wsX4_trialShare) := goodIn_app (goodIn_of _ (by decide +kernel)) ggX4_bestPlace_X4_trialShare
theorem dX4_bestPlace_0 : decode cX4_bestPlace 0 = .ok (.iconst 0, 1) := by decide +kernel
theorem dX4_bestPlace_1 : decode cX4_bestPlace 1 = .ok (.istore_n 2, 1) := by decide +kernel
theorem dX4_bestPlace_2 : decode cX4_bestPlace 2 = .ok (.iconst (-1), 1) := by decide +kernel
theorem dX4_bestPlace_3 : decode cX4_bestPlace 3 = .ok (.istore_n 3, 1) := by decide +kernel
theorem dX4_bestPlace_4 : decode cX4_bestPlace 4 = .ok (.iconst 0, 1) := by decide +kernel
theorem dX4_bestPlace_5 : decode cX4_bestPlace 5 = .ok (.istore 4, 2) := by decide +kernel
theorem dX4_bestPlace_7 : decode cX4_bestPlace 7 = .ok (.iload 4, 2) := by decide +kernel
theorem dX4_bestPlace_9 : decode cX4_bestPlace 9 = .ok (.bipush 10, 2) := by decide +kernel
theorem dX4_bestPlace_11 : decode cX4_bestPlace 11 = .ok (.if_icmp .ge 39, 3) := by decide +kernel
theorem dX4_bestPlace_14 : decode cX4_bestPlace 14 = .ok (.aload_n 0, 1) := by decide +kernel
theorem dX4_bestPlace_15 : decode cX4_bestPlace 15 = .ok (.iload_n 1, 1) := by decide +kernel
theorem dX4_bestPlace_16 : decode cX4_bestPlace 16 = .ok (.iload 4, 2) := by decide +kernel
theorem dX4_bestPlace_18 : decode cX4_bestPlace 18 = .ok (.aload_n 0, 1) := by decide +kernel
theorem dX4_bestPlace_19 : decode cX4_bestPlace 19 = .ok (.getfield 10, 3) := by decide +kernel
theorem dX4_bestPlace_22 : decode cX4_bestPlace 22 = .ok (.getfield 154, 3) := by decide +kernel
theorem dX4_bestPlace_25 : decode cX4_bestPlace 25 = .ok (.iload_n 1, 1) := by decide +kernel
theorem dX4_bestPlace_26 : decode cX4_bestPlace 26 = .ok (.iaload, 1) := by decide +kernel
theorem dX4_bestPlace_27 : decode cX4_bestPlace 27 = .ok (.invokevirtual 157, 3) := by decide +kernel
theorem dX4_bestPlace_30 : decode cX4_bestPlace 30 = .ok (.istore 5, 2) := by decide +kernel
theorem dX4_bestPlace_32 : decode cX4_bestPlace 32 = .ok (.iload 5, 2) := by decide +kernel
theorem dX4_bestPlace_34 : decode cX4_bestPlace 34 = .ok (.iload_n 3, 1) := by decide +kernel
theorem dX4_bestPlace_35 : decode cX4_bestPlace 35 = .ok (.if_icmp .le 9, 3) := by decide +kernel
theorem dX4_bestPlace_38 : decode cX4_bestPlace 38 = .ok (.iload 5, 2) := by decide +kernel
theorem dX4_bestPlace_40 : decode cX4_bestPlace 40 = .ok (.istore_n 3, 1) := by decide +kernel
theorem dX4_bestPlace_41 : decode cX4_bestPlace 41 = .ok (.iload 4, 2) := by decide +kernel
theorem dX4_bestPlace_43 : decode cX4_bestPlace 43 = .ok (.istore_n 2, 1) := by decide +kernel
theorem dX4_bestPlace_44 : decode cX4_bestPlace 44 = .ok (.iinc 4 1, 3) := by decide +kernel
theorem dX4_bestPlace_47 : decode cX4_bestPlace 47 = .ok (.goto (-40), 3) := by decide +kernel
theorem dX4_bestPlace_50 : decode cX4_bestPlace 50 = .ok (.iload_n 2, 1) := by decide +kernel
theorem dX4_bestPlace_51 : decode cX4_bestPlace 51 = .ok (.ireturn, 1) := by decide +kernel
set_option maxRecDepth 20000 in
theorem ggX4_trialShare_X0_copyFrom : GoodIn wsX4_trialShare wsX0_copyFrom := goodIn_r _ [7, 8, 9, 10, 11, 12, 13, 14, 15, 16, 17, 18, 19, 20, 21, 22, 23, 70, 71, 72, 73, 74, 75, 76, 77, 78, 79, 80, 81] (by decide +kernel) (by decide +kernel)
set_option maxRecDepth 20000 in
theorem gX4_trialShare_X0_copyFrom : GoodIn wsX4_trialShare (wsV RX4 179 RX0 yX0_copyFrom wsX0_copyFrom) := goodIn_app (goodIn_of _ (by decide +kernel)) ggX4_trialShare_X0_copyFrom
set_option maxRecDepth 20000 in
theorem ggX4_trialShare_X0_put : GoodIn wsX4_trialShare wsX0_put := goodIn_r _ [27, 15, 20, 28, 29, 30, 70, 71, 72, 73, 74, 75, 76, 77, 78, 79, 80, 81] (by decide +kernel) (by decide +kernel)
set_option maxRecDepth 20000 in
theorem gX4_trialShare_X0_put : GoodIn wsX4_trialShare (wsV RX4 54 RX0 yX0_put wsX0_put) := goodIn_app (goodIn_of _ (by decide +kernel)) ggX4_trialShare_X0_put
set_option maxRecDepth 20000 in
theorem ggX4_trialShare_X0_shareOf : GoodIn wsX4_trialShare wsX0_shareOf := goodIn_r _ [34, 21, 35, 36, 37, 6, 38, 10, 11, 39, 40, 41, 42, 43, 15, 20, 44, 45, 46, 47, 48, 29, 49, 50, 51, 52, 53, 13, 9, 54, 55, 56, 8, 57, 58, 59, 60, 61, 62, 63, 70, 71, 72, 73, 74, 75, 76, 77, 78, 79, 80, 81] (by decide +kernel) (by decide +kernel)
set_option maxRecDepth 20000 in
theorem gX4_trialShare_X0_shareOf : GoodIn wsX4_trialShare (wsV RX4 141 RX0 yX0_shareOf wsX0_shareOf) := goodIn_app (goodIn_of _ (by decide +kernel)) ggX4_trialShare_X0_shareOf
theorem dX4_trialShare_0 : decode cX4_trialShare 0 = .ok (.aload_n 0, 1) := by decide +kernel
theorem dX4_trialShare_1 : decode cX4_trialShare 1 = .ok (.getfield 16, 3) := by decide +kernel
theorem dX4_trialShare_4 : decode cX4_trialShare 4 = .ok (.aload_n 0, 1) := by decide +kernel
theorem dX4_trialShare_5 : decode cX4_trialShare 5 = .ok (.getfield 10, 3) := by decide +kernel
theorem dX4_trialShare_8 : decode cX4_trialShare 8 = .ok (.invokevirtual 179, 3) := by decide +kernel
theorem dX4_trialShare_11 : decode cX4_trialShare 11 = .ok (.aload_n 0, 1) := by decide +kernel
theorem dX4_trialShare_12 : decode cX4_trialShare 12 = .ok (.getfield 16, 3) := by decide +kernel
theorem dX4_trialShare_15 : decode cX4_trialShare 15 = .ok (.iload_n 1, 1) := by decide +kernel
theorem dX4_trialShare_16 : decode cX4_trialShare 16 = .ok (.iload_n 2, 1) := by decide +kernel
theorem dX4_trialShare_17 : decode cX4_trialShare 17 = .ok (.iload_n 3, 1) := by decide +kernel
theorem dX4_trialShare_18 : decode cX4_trialShare 18 = .ok (.invokevirtual 54, 3) := by decide +kernel
theorem dX4_trialShare_21 : decode cX4_trialShare 21 = .ok (.aload_n 0, 1) := by decide +kernel
theorem dX4_trialShare_22 : decode cX4_trialShare 22 = .ok (.getfield 16, 3) := by decide +kernel
theorem dX4_trialShare_25 : decode cX4_trialShare 25 = .ok (.iconst 1, 1) := by decide +kernel
theorem dX4_trialShare_26 : decode cX4_trialShare 26 = .ok (.iload_n 1, 1) := by decide +kernel
theorem dX4_trialShare_27 : decode cX4_trialShare 27 = .ok (.ishl, 1) := by decide +kernel
theorem dX4_trialShare_28 : decode cX4_trialShare 28 = .ok (.invokevirtual 141, 3) := by decide +kernel
theorem dX4_trialShare_31 : decode cX4_trialShare 31 = .ok (.ireturn, 1) := by decide +kernel
set_option maxRecDepth 20000 in
theorem ggX4_seen_X4_within : GoodIn wsX4_seen wsX4_within := goodIn_r _ [6] (by decide +kernel) (by decide +kernel)
set_option maxRecDepth 20000 in
theorem gX4_seen_X4_within : GoodIn wsX4_seen (va_wsS RX4 46 yX4_within wsX4_within) := goodIn_app (goodIn_of _ (by decide +kernel)) ggX4_seen_X4_within
set_option maxRecDepth 20000 in
theorem ggX4_seen_X0_addSight : GoodIn wsX4_seen wsX0_addSight := goodIn_r _ [11, 12, 13, 14, 4, 5, 6, 21, 22, 23, 24, 25, 26, 27, 28, 29, 30, 31, 32] (by decide +kernel) (by decide +kernel)
set_option maxRecDepth 20000 in
theorem gX4_seen_X0_addSight : GoodIn wsX4_seen (wsV RX4 182 RX0 yX0_addSight wsX0_addSight) := goodIn_app (goodIn_of _ (by decide +kernel)) ggX4_seen_X0_addSight
theorem dX4_seen_0 : decode cX4_seen 0 = .ok (.iload_n 1, 1) := by decide +kernel
theorem dX4_seen_1 : decode cX4_seen 1 = .ok (.iconst 1, 1) := by decide +kernel
theorem dX4_seen_2 : decode cX4_seen 2 = .ok (.iconst 2, 1) := by decide +kernel
theorem dX4_seen_3 : decode cX4_seen 3 = .ok (.invokestatic 46, 3) := by decide +kernel
theorem dX4_seen_6 : decode cX4_seen 6 = .ok (.ifCond .eq 14, 3) := by decide +kernel
theorem dX4_seen_9 : decode cX4_seen 9 = .ok (.iload_n 2, 1) := by decide +kernel
theorem dX4_seen_10 : decode cX4_seen 10 = .ok (.iconst 0, 1) := by decide +kernel
theorem dX4_seen_11 : decode cX4_seen 11 = .ok (.iconst 5, 1) := by decide +kernel
theorem dX4_seen_12 : decode cX4_seen 12 = .ok (.invokestatic 46, 3) := by decide +kernel
theorem dX4_seen_15 : decode cX4_seen 15 = .ok (.ifCond .ne 5, 3) := by decide +kernel
theorem dX4_seen_18 : decode cX4_seen 18 = .ok (.iconst (-1), 1) := by decide +kernel
theorem dX4_seen_19 : decode cX4_seen 19 = .ok (.ireturn, 1) := by decide +kernel
theorem dX4_seen_20 : decode cX4_seen 20 = .ok (.iload_n 1, 1) := by decide +kernel
theorem dX4_seen_21 : decode cX4_seen 21 = .ok (.iconst 0, 1) := by decide +kernel
theorem dX4_seen_22 : decode cX4_seen 22 = .ok (.iconst 2, 1) := by decide +kernel
theorem dX4_seen_23 : decode cX4_seen 23 = .ok (.invokestatic 46, 3) := by decide +kernel
theorem dX4_seen_26 : decode cX4_seen 26 = .ok (.ifCond .eq 17, 3) := by decide +kernel
theorem dX4_seen_29 : decode cX4_seen 29 = .ok (.iload_n 1, 1) := by decide +kernel
theorem dX4_seen_30 : decode cX4_seen 30 = .ok (.ifCond .ne 16, 3) := by decide +kernel
theorem dX4_seen_33 : decode cX4_seen 33 = .ok (.iload_n 2, 1) := by decide +kernel
theorem dX4_seen_34 : decode cX4_seen 34 = .ok (.iconst 0, 1) := by decide +kernel
theorem dX4_seen_35 : decode cX4_seen 35 = .ok (.bipush 63, 2) := by decide +kernel
theorem dX4_seen_37 : decode cX4_seen 37 = .ok (.invokestatic 46, 3) := by decide +kernel
theorem dX4_seen_40 : decode cX4_seen 40 = .ok (.ifCond .ne 6, 3) := by decide +kernel
theorem dX4_seen_43 : decode cX4_seen 43 = .ok (.bipush (-2), 2) := by decide +kernel
theorem dX4_seen_45 : decode cX4_seen 45 = .ok (.ireturn, 1) := by decide +kernel
theorem dX4_seen_46 : decode cX4_seen 46 = .ok (.aload_n 0, 1) := by decide +kernel
theorem dX4_seen_47 : decode cX4_seen 47 = .ok (.getfield 10, 3) := by decide +kernel
theorem dX4_seen_50 : decode cX4_seen 50 = .ok (.iload_n 1, 1) := by decide +kernel
theorem dX4_seen_51 : decode cX4_seen 51 = .ok (.iload_n 2, 1) := by decide +kernel
theorem dX4_seen_52 : decode cX4_seen 52 = .ok (.invokevirtual 182, 3) := by decide +kernel
theorem dX4_seen_55 : decode cX4_seen 55 = .ok (.ifCond .eq 13, 3) := by decide +kernel
theorem dX4_seen_58 : decode cX4_seen 58 = .ok (.aload_n 0, 1) := by decide +kernel
theorem dX4_seen_59 : decode cX4_seen 59 = .ok (.getfield 10, 3) := by decide +kernel
theorem dX4_seen_62 : decode cX4_seen 62 = .ok (.getfield 185, 3) := by decide +kernel
theorem dX4_seen_65 : decode cX4_seen 65 = .ok (.goto 5, 3) := by decide +kernel
theorem dX4_seen_68 : decode cX4_seen 68 = .ok (.bipush (-4), 2) := by decide +kernel
theorem dX4_seen_70 : decode cX4_seen 70 = .ok (.ireturn, 1) := by decide +kernel
theorem dX4_forget_0 : decode cX4_forget 0 = .ok (.aload_n 0, 1) := by decide +kernel
theorem dX4_forget_1 : decode cX4_forget 1 = .ok (.getfield 10, 3) := by decide +kernel
theorem dX4_forget_4 : decode cX4_forget 4 = .ok (.getfield 185, 3) := by decide +kernel
theorem dX4_forget_7 : decode cX4_forget 7 = .ok (.istore_n 1, 1) := by decide +kernel
theorem dX4_forget_8 : decode cX4_forget 8 = .ok (.aload_n 0, 1) := by decide +kernel
theorem dX4_forget_9 : decode cX4_forget 9 = .ok (.getfield 10, 3) := by decide +kernel
theorem dX4_forget_12 : decode cX4_forget 12 = .ok (.iconst 0, 1) := by decide +kernel
theorem dX4_forget_13 : decode cX4_forget 13 = .ok (.putfield 185, 3) := by decide +kernel
theorem dX4_forget_16 : decode cX4_forget 16 = .ok (.iload_n 1, 1) := by decide +kernel
theorem dX4_forget_17 : decode cX4_forget 17 = .ok (.ireturn, 1) := by decide +kernel
set_option maxRecDepth 20000 in
theorem ggX4_fits_X0_rulers : GoodIn wsX4_fits wsX0_rulers := goodIn_r _ [6, 7, 8, 9, 5, 10, 11, 12, 13, 14, 15, 16, 17, 18, 19, 20, 21, 22, 23, 24, 25, 26, 27, 28, 29, 30, 31, 32, 33, 34, 35, 36, 53, 54, 55, 56, 57, 58, 59, 60, 61, 62, 63, 64] (by decide +kernel) (by decide +kernel)
set_option maxRecDepth 20000 in
theorem gX4_fits_X0_rulers : GoodIn wsX4_fits (wsV RX4 100 RX0 yX0_rulers wsX0_rulers) := goodIn_app (goodIn_of _ (by decide +kernel)) ggX4_fits_X0_rulers
set_option maxRecDepth 20000 in
theorem ggX4_fits_X0_fitsSights : GoodIn wsX4_fits wsX0_fitsSights := goodIn_r _ [40, 41, 42, 43, 24, 25, 26, 53, 54, 55, 56, 57, 58, 59, 60, 61, 62, 63, 64] (by decide +kernel) (by decide +kernel)
set_option maxRecDepth 20000 in
theorem gX4_fits_X0_fitsSights : GoodIn wsX4_fits (wsV RX4 188 RX0 yX0_fitsSights wsX0_fitsSights) := goodIn_app (goodIn_of _ (by decide +kernel)) ggX4_fits_X0_fitsSights
set_option maxRecDepth 20000 in
theorem ggX4_fits_X4_withBit : GoodIn wsX4_fits wsX4_withBit := goodIn_r _ [46] (by decide +kernel) (by decide +kernel)
set_option maxRecDepth 20000 in
theorem gX4_fits_X4_withBit : GoodIn wsX4_fits (va_wsS RX4 62 yX4_withBit wsX4_withBit) := goodIn_app (goodIn_of _ (by decide +kernel)) ggX4_fits_X4_withBit
theorem dX4_fits_0 : decode cX4_fits 0 = .ok (.iconst 0, 1) := by decide +kernel
theorem dX4_fits_1 : decode cX4_fits 1 = .ok (.istore_n 1, 1) := by decide +kernel
theorem dX4_fits_2 : decode cX4_fits 2 = .ok (.iconst 0, 1) := by decide +kernel
theorem dX4_fits_3 : decode cX4_fits 3 = .ok (.istore_n 2, 1) := by decide +kernel
theorem dX4_fits_4 : decode cX4_fits 4 = .ok (.iload_n 2, 1) := by decide +kernel
theorem dX4_fits_5 : decode cX4_fits 5 = .ok (.bipush 10, 2) := by decide +kernel
theorem dX4_fits_7 : decode cX4_fits 7 = .ok (.if_icmp .ge 30, 3) := by decide +kernel
theorem dX4_fits_10 : decode cX4_fits 10 = .ok (.iload_n 1, 1) := by decide +kernel
theorem dX4_fits_11 : decode cX4_fits 11 = .ok (.iload_n 2, 1) := by decide +kernel
theorem dX4_fits_12 : decode cX4_fits 12 = .ok (.aload_n 0, 1) := by decide +kernel
theorem dX4_fits_13 : decode cX4_fits 13 = .ok (.getfield 10, 3) := by decide +kernel
theorem dX4_fits_16 : decode cX4_fits 16 = .ok (.aload_n 0, 1) := by decide +kernel
theorem dX4_fits_17 : decode cX4_fits 17 = .ok (.getfield 10, 3) := by decide +kernel
theorem dX4_fits_20 : decode cX4_fits 20 = .ok (.iload_n 2, 1) := by decide +kernel
theorem dX4_fits_21 : decode cX4_fits 21 = .ok (.invokevirtual 100, 3) := by decide +kernel
theorem dX4_fits_24 : decode cX4_fits 24 = .ok (.invokevirtual 188, 3) := by decide +kernel
theorem dX4_fits_27 : decode cX4_fits 27 = .ok (.invokestatic 62, 3) := by decide +kernel
theorem dX4_fits_30 : decode cX4_fits 30 = .ok (.istore_n 1, 1) := by decide +kernel
theorem dX4_fits_31 : decode cX4_fits 31 = .ok (.iinc 2 1, 3) := by decide +kernel
theorem dX4_fits_34 : decode cX4_fits 34 = .ok (.goto (-30), 3) := by decide +kernel
theorem dX4_fits_37 : decode cX4_fits 37 = .ok (.iload_n 1, 1) := by decide +kernel
theorem dX4_fits_38 : decode cX4_fits 38 = .ok (.ireturn, 1) := by decide +kernel
set_option maxRecDepth 20000 in
theorem ggX4_year_X4_within : GoodIn wsX4_year wsX4_within := goodIn_r _ [7] (by decide +kernel) (by decide +kernel)
set_option maxRecDepth 20000 in
theorem gX4_year_X4_within : GoodIn wsX4_year (va_wsS RX4 46 yX4_within wsX4_within) := goodIn_app (goodIn_of _ (by decide +kernel)) ggX4_year_X4_within
set_option maxRecDepth 20000 in
theorem ggX4_year_X1_begin : GoodIn wsX4_year wsX1_begin := goodIn_r _ [12, 13, 14, 15, 16, 17, 18, 19, 20, 83, 84, 85, 86, 87] (by decide +kernel) (by decide +kernel)
set_option maxRecDepth 20000 in
theorem gX4_year_X1_begin : GoodIn wsX4_year (wsV RX4 191 RX1 yX1_begin wsX1_begin) := goodIn_app (goodIn_of _ (by decide +kernel)) ggX4_year_X1_begin
set_option maxRecDepth 20000 in
theorem ggX4_year_X1_rain : GoodIn wsX4_year wsX1_rain := goodIn_r _ [24, 25, 26, 27, 28, 11, 29, 14, 30, 31, 32, 33, 34, 35, 36, 37, 38, 39, 40, 41, 42, 43, 44, 45, 46, 47, 48, 6, 49, 50, 51, 52, 53, 54, 55, 56, 57, 58, 59, 60, 61, 62, 63, 64, 65, 66, 67, 13, 15, 83, 84, 85, 86, 87, 88, 89, 90, 91, 92, 93, 94, 95, 96, 97, 98, 99] (by decide +kernel) (by decide +kernel)
set_option maxRecDepth 20000 in
theorem gX4_year_X1_rain : GoodIn wsX4_year (wsV RX4 195 RX1 yX1_rain wsX1_rain) := goodIn_app (goodIn_of _ (by decide +kernel)) ggX4_year_X1_rain
set_option maxRecDepth 20000 in
theorem ggX4_year_X1_pass : GoodIn wsX4_year wsX1_pass := goodIn_r _ [71, 16, 13, 25, 72, 48, 6, 49, 83, 84, 85, 86, 87, 88, 89, 90, 91, 92, 93, 94, 95, 96, 97, 98, 99] (by decide +kernel) (by decide +kernel)
set_option maxRecDepth 20000 in
theorem gX4_year_X1_pass : GoodIn wsX4_year (wsV RX4 199 RX1 yX1_pass wsX1_pass) := goodIn_app (goodIn_of _ (by decide +kernel)) ggX4_year_X1_pass
set_option maxRecDepth 20000 in
theorem ggX4_year_X1_yearsOf : GoodIn wsX4_year wsX1_yearsOf := goodIn_r _ [76, 16, 5, 6, 7, 83, 84, 85, 86, 87] (by decide +kernel) (by decide +kernel)
set_option maxRecDepth 20000 in
theorem gX4_year_X1_yearsOf : GoodIn wsX4_year (wsV RX4 127 RX1 yX1_yearsOf wsX1_yearsOf) := goodIn_app (goodIn_of _ (by decide +kernel)) ggX4_year_X1_yearsOf
theorem dX4_year_0 : decode cX4_year 0 = .ok (.iload_n 1, 1) := by decide +kernel
theorem dX4_year_1 : decode cX4_year 1 = .ok (.iconst 0, 1) := by decide +kernel
theorem dX4_year_2 : decode cX4_year 2 = .ok (.sipush 9999, 3) := by decide +kernel
theorem dX4_year_5 : decode cX4_year 5 = .ok (.invokestatic 46, 3) := by decide +kernel
theorem dX4_year_8 : decode cX4_year 8 = .ok (.ifCond .eq 23, 3) := by decide +kernel
theorem dX4_year_11 : decode cX4_year 11 = .ok (.iload_n 2, 1) := by decide +kernel
theorem dX4_year_12 : decode cX4_year 12 = .ok (.iconst 1, 1) := by decide +kernel
theorem dX4_year_13 : decode cX4_year 13 = .ok (.bipush 99, 2) := by decide +kernel
theorem dX4_year_15 : decode cX4_year 15 = .ok (.invokestatic 46, 3) := by decide +kernel
theorem dX4_year_18 : decode cX4_year 18 = .ok (.ifCond .eq 13, 3) := by decide +kernel
theorem dX4_year_21 : decode cX4_year 21 = .ok (.iload_n 3, 1) := by decide +kernel
theorem dX4_year_22 : decode cX4_year 22 = .ok (.iconst 0, 1) := by decide +kernel
theorem dX4_year_23 : decode cX4_year 23 = .ok (.bipush 7, 2) := by decide +kernel
theorem dX4_year_25 : decode cX4_year 25 = .ok (.invokestatic 46, 3) := by decide +kernel
theorem dX4_year_28 : decode cX4_year 28 = .ok (.ifCond .ne 6, 3) := by decide +kernel
theorem dX4_year_31 : decode cX4_year 31 = .ok (.bipush (-2), 2) := by decide +kernel
theorem dX4_year_33 : decode cX4_year 33 = .ok (.ireturn, 1) := by decide +kernel
theorem dX4_year_34 : decode cX4_year 34 = .ok (.aload_n 0, 1) := by decide +kernel
theorem dX4_year_35 : decode cX4_year 35 = .ok (.getfield 35, 3) := by decide +kernel
theorem dX4_year_38 : decode cX4_year 38 = .ok (.invokevirtual 191, 3) := by decide +kernel
theorem dX4_year_41 : decode cX4_year 41 = .ok (.iload_n 1, 1) := by decide +kernel
theorem dX4_year_42 : decode cX4_year 42 = .ok (.istore 4, 2) := by decide +kernel
theorem dX4_year_44 : decode cX4_year 44 = .ok (.iconst 0, 1) := by decide +kernel
theorem dX4_year_45 : decode cX4_year 45 = .ok (.istore 5, 2) := by decide +kernel
theorem dX4_year_47 : decode cX4_year 47 = .ok (.iload 5, 2) := by decide +kernel
theorem dX4_year_49 : decode cX4_year 49 = .ok (.iload_n 2, 1) := by decide +kernel
theorem dX4_year_50 : decode cX4_year 50 = .ok (.if_icmp .ge 42, 3) := by decide +kernel
theorem dX4_year_53 : decode cX4_year 53 = .ok (.bipush 75, 2) := by decide +kernel
theorem dX4_year_55 : decode cX4_year 55 = .ok (.iload 4, 2) := by decide +kernel
theorem dX4_year_57 : decode cX4_year 57 = .ok (.imul, 1) := by decide +kernel
theorem dX4_year_58 : decode cX4_year 58 = .ok (.bipush 74, 2) := by decide +kernel
theorem dX4_year_60 : decode cX4_year 60 = .ok (.iadd, 1) := by decide +kernel
theorem dX4_year_61 : decode cX4_year 61 = .ok (.ldc 194, 2) := by decide +kernel
theorem dX4_year_63 : decode cX4_year 63 = .ok (.irem, 1) := by decide +kernel
theorem dX4_year_64 : decode cX4_year 64 = .ok (.istore 4, 2) := by decide +kernel
theorem dX4_year_66 : decode cX4_year 66 = .ok (.aload_n 0, 1) := by decide +kernel
theorem dX4_year_67 : decode cX4_year 67 = .ok (.getfield 35, 3) := by decide +kernel
theorem dX4_year_70 : decode cX4_year 70 = .ok (.iload 4, 2) := by decide +kernel
theorem dX4_year_72 : decode cX4_year 72 = .ok (.bipush 10, 2) := by decide +kernel
theorem dX4_year_74 : decode cX4_year 74 = .ok (.irem, 1) := by decide +kernel
theorem dX4_year_75 : decode cX4_year 75 = .ok (.invokevirtual 195, 3) := by decide +kernel
theorem dX4_year_78 : decode cX4_year 78 = .ok (.aload_n 0, 1) := by decide +kernel
theorem dX4_year_79 : decode cX4_year 79 = .ok (.getfield 35, 3) := by decide +kernel
theorem dX4_year_82 : decode cX4_year 82 = .ok (.iconst 1, 1) := by decide +kernel
theorem dX4_year_83 : decode cX4_year 83 = .ok (.invokevirtual 199, 3) := by decide +kernel
theorem dX4_year_86 : decode cX4_year 86 = .ok (.iinc 5 1, 3) := by decide +kernel
theorem dX4_year_89 : decode cX4_year 89 = .ok (.goto (-42), 3) := by decide +kernel
theorem dX4_year_92 : decode cX4_year 92 = .ok (.iload_n 3, 1) := by decide +kernel
theorem dX4_year_93 : decode cX4_year 93 = .ok (.bipush 7, 2) := by decide +kernel
theorem dX4_year_95 : decode cX4_year 95 = .ok (.if_icmp .ne 11, 3) := by decide +kernel
theorem dX4_year_98 : decode cX4_year 98 = .ok (.aload_n 0, 1) := by decide +kernel
theorem dX4_year_99 : decode cX4_year 99 = .ok (.getfield 35, 3) := by decide +kernel
theorem dX4_year_102 : decode cX4_year 102 = .ok (.getfield 124, 3) := by decide +kernel
theorem dX4_year_105 : decode cX4_year 105 = .ok (.ireturn, 1) := by decide +kernel
theorem dX4_year_106 : decode cX4_year 106 = .ok (.aload_n 0, 1) := by decide +kernel
theorem dX4_year_107 : decode cX4_year 107 = .ok (.getfield 35, 3) := by decide +kernel
theorem dX4_year_110 : decode cX4_year 110 = .ok (.iload_n 3, 1) := by decide +kernel
theorem dX4_year_111 : decode cX4_year 111 = .ok (.bipush 6, 2) := by decide +kernel
theorem dX4_year_113 : decode cX4_year 113 = .ok (.if_icmp .ne 8, 3) := by decide +kernel
theorem dX4_year_116 : decode cX4_year 116 = .ok (.bipush 8, 2) := by decide +kernel
theorem dX4_year_118 : decode cX4_year 118 = .ok (.goto 4, 3) := by decide +kernel
theorem dX4_year_121 : decode cX4_year 121 = .ok (.iload_n 3, 1) := by decide +kernel
theorem dX4_year_122 : decode cX4_year 122 = .ok (.invokevirtual 127, 3) := by decide +kernel
theorem dX4_year_125 : decode cX4_year 125 = .ok (.ireturn, 1) := by decide +kernel
set_option maxRecDepth 20000 in
theorem ggX4_image_X4_within : GoodIn wsX4_image wsX4_within := goodIn_r _ [9] (by decide +kernel) (by decide +kernel)
set_option maxRecDepth 20000 in
theorem gX4_image_X4_within : GoodIn wsX4_image (va_wsS RX4 46 yX4_within wsX4_within) := goodIn_app (goodIn_of _ (by decide +kernel)) ggX4_image_X4_within
set_option maxRecDepth 20000 in
theorem ggX4_image_X0_init : GoodIn wsX4_image wsX0_init := goodIn_r _ [12, 13, 14, 15, 16, 17, 18, 19, 20, 21, 22, 23, 24, 25, 26, 27, 47, 48, 49, 50, 51, 52, 53, 54, 55, 56, 57, 58] (by decide +kernel) (by decide +kernel)
set_option maxRecDepth 20000 in
theorem gX4_image_X0_init : GoodIn wsX4_image (wsX0_init) := ggX4_image_X0_init
set_option maxRecDepth 20000 in
theorem ggX4_image_X0_copyFrom : GoodIn wsX4_image wsX0_copyFrom := goodIn_r _ [31, 16, 17, 32, 33, 34, 35, 36, 19, 37, 38, 39, 40, 20, 21, 22, 23, 47, 48, 49, 50, 51, 52, 53, 54, 55, 56, 57, 58] (by decide +kernel) (by decide +kernel)
set_option maxRecDepth 20000 in
theorem gX4_image_X0_copyFrom : GoodIn wsX4_image (wsV RX4 179 RX0 yX0_copyFrom wsX0_copyFrom) := goodIn_app (goodIn_of _ (by decide +kernel)) ggX4_image_X0_copyFrom
theorem dX4_image_0 : decode cX4_image 0 = .ok (.iload_n 1, 1) := by decide +kernel
theorem dX4_image_1 : decode cX4_image 1 = .ok (.iconst 0, 1) := by decide +kernel
theorem dX4_image_2 : decode cX4_image 2 = .ok (.iconst 1, 1) := by decide +kernel
theorem dX4_image_3 : decode cX4_image 3 = .ok (.invokestatic 46, 3) := by decide +kernel
theorem dX4_image_6 : decode cX4_image 6 = .ok (.ifCond .ne 6, 3) := by decide +kernel
theorem dX4_image_9 : decode cX4_image 9 = .ok (.bipush (-2), 2) := by decide +kernel
theorem dX4_image_11 : decode cX4_image 11 = .ok (.ireturn, 1) := by decide +kernel
theorem dX4_image_12 : decode cX4_image 12 = .ok (.aload_n 0, 1) := by decide +kernel
theorem dX4_image_13 : decode cX4_image 13 = .ok (.getfield 19, 3) := by decide +kernel
theorem dX4_image_16 : decode cX4_image 16 = .ok (.iload_n 1, 1) := by decide +kernel
theorem dX4_image_17 : decode cX4_image 17 = .ok (.aaload, 1) := by decide +kernel
theorem dX4_image_18 : decode cX4_image 18 = .ok (.astore_n 2, 1) := by decide +kernel
theorem dX4_image_19 : decode cX4_image 19 = .ok (.aload_n 2, 1) := by decide +kernel
theorem dX4_image_20 : decode cX4_image 20 = .ok (.ifnonnull 18, 3) := by decide +kernel
theorem dX4_image_23 : decode cX4_image 23 = .ok (.new 7, 3) := by decide +kernel
theorem dX4_image_26 : decode cX4_image 26 = .ok (.dup, 1) := by decide +kernel
theorem dX4_image_27 : decode cX4_image 27 = .ok (.invokespecial 9, 3) := by decide +kernel
theorem dX4_image_30 : decode cX4_image 30 = .ok (.astore_n 2, 1) := by decide +kernel
theorem dX4_image_31 : decode cX4_image 31 = .ok (.aload_n 0, 1) := by decide +kernel
theorem dX4_image_32 : decode cX4_image 32 = .ok (.getfield 19, 3) := by decide +kernel
theorem dX4_image_35 : decode cX4_image 35 = .ok (.iload_n 1, 1) := by decide +kernel
theorem dX4_image_36 : decode cX4_image 36 = .ok (.aload_n 2, 1) := by decide +kernel
theorem dX4_image_37 : decode cX4_image 37 = .ok (.aastore, 1) := by decide +kernel
theorem dX4_image_38 : decode cX4_image 38 = .ok (.aload_n 2, 1) := by decide +kernel
theorem dX4_image_39 : decode cX4_image 39 = .ok (.aload_n 0, 1) := by decide +kernel
theorem dX4_image_40 : decode cX4_image 40 = .ok (.getfield 10, 3) := by decide +kernel
theorem dX4_image_43 : decode cX4_image 43 = .ok (.invokevirtual 179, 3) := by decide +kernel
theorem dX4_image_46 : decode cX4_image 46 = .ok (.iconst 1, 1) := by decide +kernel
theorem dX4_image_47 : decode cX4_image 47 = .ok (.ireturn, 1) := by decide +kernel
set_option maxRecDepth 20000 in
theorem ggX4_restore_X4_within : GoodIn wsX4_restore wsX4_within := goodIn_r _ [6] (by decide +kernel) (by decide +kernel)
set_option maxRecDepth 20000 in
theorem gX4_restore_X4_within : GoodIn wsX4_restore (va_wsS RX4 46 yX4_within wsX4_within) := goodIn_app (goodIn_of _ (by decide +kernel)) ggX4_restore_X4_within
set_option maxRecDepth 20000 in
theorem ggX4_restore_X0_copyFrom : GoodIn wsX4_restore wsX0_copyFrom := goodIn_r _ [11, 12, 13, 14, 15, 16, 17, 18, 19, 20, 21, 22, 23, 24, 25, 26, 27, 34, 35, 36, 37, 38, 39, 40, 41, 42, 43, 44, 45] (by decide +kernel) (by decide +kernel)
set_option maxRecDepth 20000 in
theorem gX4_restore_X0_copyFrom : GoodIn wsX4_restore (wsV RX4 179 RX0 yX0_copyFrom wsX0_copyFrom) := goodIn_app (goodIn_of _ (by decide +kernel)) ggX4_restore_X0_copyFrom
theorem dX4_restore_0 : decode cX4_restore 0 = .ok (.iload_n 1, 1) := by decide +kernel
theorem dX4_restore_1 : decode cX4_restore 1 = .ok (.iconst 0, 1) := by decide +kernel
theorem dX4_restore_2 : decode cX4_restore 2 = .ok (.iconst 1, 1) := by decide +kernel
theorem dX4_restore_3 : decode cX4_restore 3 = .ok (.invokestatic 46, 3) := by decide +kernel
theorem dX4_restore_6 : decode cX4_restore 6 = .ok (.ifCond .ne 6, 3) := by decide +kernel
theorem dX4_restore_9 : decode cX4_restore 9 = .ok (.bipush (-2), 2) := by decide +kernel
theorem dX4_restore_11 : decode cX4_restore 11 = .ok (.ireturn, 1) := by decide +kernel
theorem dX4_restore_12 : decode cX4_restore 12 = .ok (.aload_n 0, 1) := by decide +kernel
theorem dX4_restore_13 : decode cX4_restore 13 = .ok (.getfield 19, 3) := by decide +kernel
theorem dX4_restore_16 : decode cX4_restore 16 = .ok (.iload_n 1, 1) := by decide +kernel
theorem dX4_restore_17 : decode cX4_restore 17 = .ok (.aaload, 1) := by decide +kernel
theorem dX4_restore_18 : decode cX4_restore 18 = .ok (.astore_n 2, 1) := by decide +kernel
theorem dX4_restore_19 : decode cX4_restore 19 = .ok (.aload_n 2, 1) := by decide +kernel
theorem dX4_restore_20 : decode cX4_restore 20 = .ok (.ifnonnull 6, 3) := by decide +kernel
theorem dX4_restore_23 : decode cX4_restore 23 = .ok (.bipush (-3), 2) := by decide +kernel
theorem dX4_restore_25 : decode cX4_restore 25 = .ok (.ireturn, 1) := by decide +kernel
theorem dX4_restore_26 : decode cX4_restore 26 = .ok (.aload_n 0, 1) := by decide +kernel
theorem dX4_restore_27 : decode cX4_restore 27 = .ok (.getfield 10, 3) := by decide +kernel
theorem dX4_restore_30 : decode cX4_restore 30 = .ok (.aload_n 2, 1) := by decide +kernel
theorem dX4_restore_31 : decode cX4_restore 31 = .ok (.invokevirtual 179, 3) := by decide +kernel
theorem dX4_restore_34 : decode cX4_restore 34 = .ok (.iconst 1, 1) := by decide +kernel
theorem dX4_restore_35 : decode cX4_restore 35 = .ok (.ireturn, 1) := by decide +kernel
set_option maxRecDepth 20000 in
theorem ggX4_told_X4_within : GoodIn wsX4_told wsX4_within := goodIn_r _ [13] (by decide +kernel) (by decide +kernel)
set_option maxRecDepth 20000 in
theorem gX4_told_X4_within : GoodIn wsX4_told (va_wsS RX4 46 yX4_within wsX4_within) := goodIn_app (goodIn_of _ (by decide +kernel)) ggX4_told_X4_within
set_option maxRecDepth 20000 in
theorem ggX4_told_X4_toldOfPerson : GoodIn wsX4_told wsX4_toldOfPerson := goodIn_r _ [17, 3, 18, 19, 20, 21, 22, 23, 24, 25, 26, 27, 11, 12, 13, 28, 29, 30, 31, 32, 33, 34, 35, 36, 39, 40, 41, 42, 43, 44, 45, 46, 47, 48, 49, 50] (by decide +kernel) (by decide +kernel)
set_option maxRecDepth 20000 in
theorem gX4_told_X4_toldOfPerson : GoodIn wsX4_told (wsV RX4 202 RX4 yX4_toldOfPerson wsX4_toldOfPerson) := goodIn_app (goodIn_of _ (by decide +kernel)) ggX4_told_X4_toldOfPerson
theorem dX4_told_0 : decode cX4_told 0 = .ok (.iload_n 1, 1) := by decide +kernel
theorem dX4_told_1 : decode cX4_told 1 = .ok (.tableswitch 87 0 5 #[39, 47, 55, 63, 71, 79], 39) := by decide +kernel
theorem dX4_told_40 : decode cX4_told 40 = .ok (.aload_n 0, 1) := by decide +kernel
theorem dX4_told_41 : decode cX4_told 41 = .ok (.getfield 26, 3) := by decide +kernel
theorem dX4_told_44 : decode cX4_told 44 = .ok (.getfield 93, 3) := by decide +kernel
theorem dX4_told_47 : decode cX4_told 47 = .ok (.ireturn, 1) := by decide +kernel
theorem dX4_told_48 : decode cX4_told 48 = .ok (.aload_n 0, 1) := by decide +kernel
theorem dX4_told_49 : decode cX4_told 49 = .ok (.getfield 10, 3) := by decide +kernel
theorem dX4_told_52 : decode cX4_told 52 = .ok (.getfield 58, 3) := by decide +kernel
theorem dX4_told_55 : decode cX4_told 55 = .ok (.ireturn, 1) := by decide +kernel
theorem dX4_told_56 : decode cX4_told 56 = .ok (.aload_n 0, 1) := by decide +kernel
theorem dX4_told_57 : decode cX4_told 57 = .ok (.getfield 10, 3) := by decide +kernel
theorem dX4_told_60 : decode cX4_told 60 = .ok (.getfield 84, 3) := by decide +kernel
theorem dX4_told_63 : decode cX4_told 63 = .ok (.ireturn, 1) := by decide +kernel
theorem dX4_told_64 : decode cX4_told 64 = .ok (.aload_n 0, 1) := by decide +kernel
theorem dX4_told_65 : decode cX4_told 65 = .ok (.getfield 10, 3) := by decide +kernel
theorem dX4_told_68 : decode cX4_told 68 = .ok (.getfield 87, 3) := by decide +kernel
theorem dX4_told_71 : decode cX4_told 71 = .ok (.ireturn, 1) := by decide +kernel
theorem dX4_told_72 : decode cX4_told 72 = .ok (.aload_n 0, 1) := by decide +kernel
theorem dX4_told_73 : decode cX4_told 73 = .ok (.getfield 10, 3) := by decide +kernel
theorem dX4_told_76 : decode cX4_told 76 = .ok (.getfield 81, 3) := by decide +kernel
theorem dX4_told_79 : decode cX4_told 79 = .ok (.ireturn, 1) := by decide +kernel
theorem dX4_told_80 : decode cX4_told 80 = .ok (.aload_n 0, 1) := by decide +kernel
theorem dX4_told_81 : decode cX4_told 81 = .ok (.getfield 10, 3) := by decide +kernel
theorem dX4_told_84 : decode cX4_told 84 = .ok (.getfield 185, 3) := by decide +kernel
theorem dX4_told_87 : decode cX4_told 87 = .ok (.ireturn, 1) := by decide +kernel
theorem dX4_told_88 : decode cX4_told 88 = .ok (.iload_n 1, 1) := by decide +kernel
theorem dX4_told_89 : decode cX4_told 89 = .ok (.bipush 10, 2) := by decide +kernel
theorem dX4_told_91 : decode cX4_told 91 = .ok (.bipush 19, 2) := by decide +kernel
theorem dX4_told_93 : decode cX4_told 93 = .ok (.invokestatic 46, 3) := by decide +kernel
theorem dX4_told_96 : decode cX4_told 96 = .ok (.ifCond .eq 16, 3) := by decide +kernel
theorem dX4_told_99 : decode cX4_told 99 = .ok (.aload_n 0, 1) := by decide +kernel
theorem dX4_told_100 : decode cX4_told 100 = .ok (.getfield 10, 3) := by decide +kernel
theorem dX4_told_103 : decode cX4_told 103 = .ok (.getfield 130, 3) := by decide +kernel
theorem dX4_told_106 : decode cX4_told 106 = .ok (.iload_n 1, 1) := by decide +kernel
theorem dX4_told_107 : decode cX4_told 107 = .ok (.bipush 10, 2) := by decide +kernel
theorem dX4_told_109 : decode cX4_told 109 = .ok (.isub, 1) := by decide +kernel
theorem dX4_told_110 : decode cX4_told 110 = .ok (.iaload, 1) := by decide +kernel
theorem dX4_told_111 : decode cX4_told 111 = .ok (.ireturn, 1) := by decide +kernel
theorem dX4_told_112 : decode cX4_told 112 = .ok (.iload_n 1, 1) := by decide +kernel
theorem dX4_told_113 : decode cX4_told 113 = .ok (.bipush 20, 2) := by decide +kernel
theorem dX4_told_115 : decode cX4_told 115 = .ok (.if_icmp .ge 8, 3) := by decide +kernel
theorem dX4_told_118 : decode cX4_told 118 = .ok (.bipush (-2), 2) := by decide +kernel
theorem dX4_told_120 : decode cX4_told 120 = .ok (.goto 21, 3) := by decide +kernel
theorem dX4_told_123 : decode cX4_told 123 = .ok (.aload_n 0, 1) := by decide +kernel
theorem dX4_told_124 : decode cX4_told 124 = .ok (.iload_n 1, 1) := by decide +kernel
theorem dX4_told_125 : decode cX4_told 125 = .ok (.bipush 20, 2) := by decide +kernel
theorem dX4_told_127 : decode cX4_told 127 = .ok (.isub, 1) := by decide +kernel
theorem dX4_told_128 : decode cX4_told 128 = .ok (.bipush 10, 2) := by decide +kernel
theorem dX4_told_130 : decode cX4_told 130 = .ok (.idiv, 1) := by decide +kernel
theorem dX4_told_131 : decode cX4_told 131 = .ok (.iload_n 1, 1) := by decide +kernel
theorem dX4_told_132 : decode cX4_told 132 = .ok (.bipush 20, 2) := by decide +kernel
theorem dX4_told_134 : decode cX4_told 134 = .ok (.isub, 1) := by decide +kernel
theorem dX4_told_135 : decode cX4_told 135 = .ok (.bipush 10, 2) := by decide +kernel
theorem dX4_told_137 : decode cX4_told 137 = .ok (.irem, 1) := by decide +kernel
theorem dX4_told_138 : decode cX4_told 138 = .ok (.invokevirtual 202, 3) := by decide +kernel
theorem dX4_told_141 : decode cX4_told 141 = .ok (.ireturn, 1) := by decide +kernel
set_option maxRecDepth 20000 in
theorem ggX4_toldOfPerson_X0_isThere : GoodIn wsX4_toldOfPerson wsX0_isThere := goodIn_r _ [10, 11, 12, 13, 14, 15, 16, 24, 25, 26, 27, 28, 29, 30, 31, 32, 33, 34, 35] (by decide +kernel) (by decide +kernel)
set_option maxRecDepth 20000 in
theorem gX4_toldOfPerson_X0_isThere : GoodIn wsX4_toldOfPerson (wsV RX4 78 RX0 yX0_isThere wsX0_isThere) := goodIn_app (goodIn_of _ (by decide +kernel)) ggX4_toldOfPerson_X0_isThere
set_option maxRecDepth 20000 in
theorem ggX4_toldOfPerson_X4_hasBit : GoodIn wsX4_toldOfPerson wsX4_hasBit := goodIn_r _ [16] (by decide +kernel) (by decide +kernel)
set_option maxRecDepth 20000 in
theorem gX4_toldOfPerson_X4_hasBit : GoodIn wsX4_toldOfPerson (va_wsS RX4 110 yX4_hasBit wsX4_hasBit) := goodIn_app (goodIn_of _ (by decide +kernel)) ggX4_toldOfPerson_X4_hasBit
theorem dX4_toldOfPerson_0 : decode cX4_toldOfPerson 0 = .ok (.aload_n 0, 1) := by decide +kernel
theorem dX4_toldOfPerson_1 : decode cX4_toldOfPerson 1 = .ok (.getfield 10, 3) := by decide +kernel
theorem dX4_toldOfPerson_4 : decode cX4_toldOfPerson 4 = .ok (.iload_n 1, 1) := by decide +kernel
theorem dX4_toldOfPerson_5 : decode cX4_toldOfPerson 5 = .ok (.invokevirtual 78, 3) := by decide +kernel
theorem dX4_toldOfPerson_8 : decode cX4_toldOfPerson 8 = .ok (.ifCond .ne 6, 3) := by decide +kernel
theorem dX4_toldOfPerson_11 : decode cX4_toldOfPerson 11 = .ok (.bipush (-2), 2) := by decide +kernel
theorem dX4_toldOfPerson_13 : decode cX4_toldOfPerson 13 = .ok (.ireturn, 1) := by decide +kernel
theorem dX4_toldOfPerson_14 : decode cX4_toldOfPerson 14 = .ok (.iload_n 2, 1) := by decide +kernel
theorem dX4_toldOfPerson_15 : decode cX4_toldOfPerson 15 = .ok (.tableswitch 89 0 3 #[29, 39, 49, 69], 29) := by decide +kernel
theorem dX4_toldOfPerson_44 : decode cX4_toldOfPerson 44 = .ok (.aload_n 0, 1) := by decide +kernel
theorem dX4_toldOfPerson_45 : decode cX4_toldOfPerson 45 = .ok (.getfield 10, 3) := by decide +kernel
theorem dX4_toldOfPerson_48 : decode cX4_toldOfPerson 48 = .ok (.getfield 170, 3) := by decide +kernel
theorem dX4_toldOfPerson_51 : decode cX4_toldOfPerson 51 = .ok (.iload_n 1, 1) := by decide +kernel
theorem dX4_toldOfPerson_52 : decode cX4_toldOfPerson 52 = .ok (.iaload, 1) := by decide +kernel
theorem dX4_toldOfPerson_53 : decode cX4_toldOfPerson 53 = .ok (.ireturn, 1) := by decide +kernel
theorem dX4_toldOfPerson_54 : decode cX4_toldOfPerson 54 = .ok (.aload_n 0, 1) := by decide +kernel
theorem dX4_toldOfPerson_55 : decode cX4_toldOfPerson 55 = .ok (.getfield 10, 3) := by decide +kernel
theorem dX4_toldOfPerson_58 : decode cX4_toldOfPerson 58 = .ok (.getfield 154, 3) := by decide +kernel
theorem dX4_toldOfPerson_61 : decode cX4_toldOfPerson 61 = .ok (.iload_n 1, 1) := by decide +kernel
theorem dX4_toldOfPerson_62 : decode cX4_toldOfPerson 62 = .ok (.iaload, 1) := by decide +kernel
theorem dX4_toldOfPerson_63 : decode cX4_toldOfPerson 63 = .ok (.ireturn, 1) := by decide +kernel
theorem dX4_toldOfPerson_64 : decode cX4_toldOfPerson 64 = .ok (.aload_n 0, 1) := by decide +kernel
theorem dX4_toldOfPerson_65 : decode cX4_toldOfPerson 65 = .ok (.getfield 10, 3) := by decide +kernel
theorem dX4_toldOfPerson_68 : decode cX4_toldOfPerson 68 = .ok (.getfield 66, 3) := by decide +kernel
theorem dX4_toldOfPerson_71 : decode cX4_toldOfPerson 71 = .ok (.iload_n 1, 1) := by decide +kernel
theorem dX4_toldOfPerson_72 : decode cX4_toldOfPerson 72 = .ok (.invokestatic 110, 3) := by decide +kernel
theorem dX4_toldOfPerson_75 : decode cX4_toldOfPerson 75 = .ok (.ifCond .eq 7, 3) := by decide +kernel
theorem dX4_toldOfPerson_78 : decode cX4_toldOfPerson 78 = .ok (.iconst 1, 1) := by decide +kernel
theorem dX4_toldOfPerson_79 : decode cX4_toldOfPerson 79 = .ok (.goto 4, 3) := by decide +kernel
theorem dX4_toldOfPerson_82 : decode cX4_toldOfPerson 82 = .ok (.iconst 0, 1) := by decide +kernel
theorem dX4_toldOfPerson_83 : decode cX4_toldOfPerson 83 = .ok (.ireturn, 1) := by decide +kernel
theorem dX4_toldOfPerson_84 : decode cX4_toldOfPerson 84 = .ok (.aload_n 0, 1) := by decide +kernel
theorem dX4_toldOfPerson_85 : decode cX4_toldOfPerson 85 = .ok (.getfield 10, 3) := by decide +kernel
theorem dX4_toldOfPerson_88 : decode cX4_toldOfPerson 88 = .ok (.getfield 69, 3) := by decide +kernel
theorem dX4_toldOfPerson_91 : decode cX4_toldOfPerson 91 = .ok (.iload_n 1, 1) := by decide +kernel
theorem dX4_toldOfPerson_92 : decode cX4_toldOfPerson 92 = .ok (.invokestatic 110, 3) := by decide +kernel
theorem dX4_toldOfPerson_95 : decode cX4_toldOfPerson 95 = .ok (.ifCond .eq 7, 3) := by decide +kernel
theorem dX4_toldOfPerson_98 : decode cX4_toldOfPerson 98 = .ok (.iconst 1, 1) := by decide +kernel
theorem dX4_toldOfPerson_99 : decode cX4_toldOfPerson 99 = .ok (.goto 4, 3) := by decide +kernel
theorem dX4_toldOfPerson_102 : decode cX4_toldOfPerson 102 = .ok (.iconst 0, 1) := by decide +kernel
theorem dX4_toldOfPerson_103 : decode cX4_toldOfPerson 103 = .ok (.ireturn, 1) := by decide +kernel
theorem dX4_toldOfPerson_104 : decode cX4_toldOfPerson 104 = .ok (.bipush (-2), 2) := by decide +kernel
theorem dX4_toldOfPerson_106 : decode cX4_toldOfPerson 106 = .ok (.ireturn, 1) := by decide +kernel
theorem dX4_within_0 : decode cX4_within 0 = .ok (.iload_n 0, 1) := by decide +kernel
theorem dX4_within_1 : decode cX4_within 1 = .ok (.iload_n 1, 1) := by decide +kernel
theorem dX4_within_2 : decode cX4_within 2 = .ok (.if_icmp .lt 12, 3) := by decide +kernel
theorem dX4_within_5 : decode cX4_within 5 = .ok (.iload_n 0, 1) := by decide +kernel
theorem dX4_within_6 : decode cX4_within 6 = .ok (.iload_n 2, 1) := by decide +kernel
theorem dX4_within_7 : decode cX4_within 7 = .ok (.if_icmp .gt 7, 3) := by decide +kernel
theorem dX4_within_10 : decode cX4_within 10 = .ok (.iconst 1, 1) := by decide +kernel
theorem dX4_within_11 : decode cX4_within 11 = .ok (.goto 4, 3) := by decide +kernel
theorem dX4_within_14 : decode cX4_within 14 = .ok (.iconst 0, 1) := by decide +kernel
theorem dX4_within_15 : decode cX4_within 15 = .ok (.ireturn, 1) := by decide +kernel
set_option maxRecDepth 20000 in
theorem ggX4_isPlace_X4_within : GoodIn wsX4_isPlace wsX4_within := goodIn_r _ [4] (by decide +kernel) (by decide +kernel)
set_option maxRecDepth 20000 in
theorem gX4_isPlace_X4_within : GoodIn wsX4_isPlace (va_wsS RX4 46 yX4_within wsX4_within) := goodIn_app (goodIn_of _ (by decide +kernel)) ggX4_isPlace_X4_within
theorem dX4_isPlace_0 : decode cX4_isPlace 0 = .ok (.iload_n 0, 1) := by decide +kernel
theorem dX4_isPlace_1 : decode cX4_isPlace 1 = .ok (.iconst 0, 1) := by decide +kernel
theorem dX4_isPlace_2 : decode cX4_isPlace 2 = .ok (.bipush 9, 2) := by decide +kernel
theorem dX4_isPlace_4 : decode cX4_isPlace 4 = .ok (.invokestatic 46, 3) := by decide +kernel
theorem dX4_isPlace_7 : decode cX4_isPlace 7 = .ok (.ireturn, 1) := by decide +kernel
theorem dX4_hasBit_0 : decode cX4_hasBit 0 = .ok (.iload_n 0, 1) := by decide +kernel
theorem dX4_hasBit_1 : decode cX4_hasBit 1 = .ok (.iload_n 1, 1) := by decide +kernel
theorem dX4_hasBit_2 : decode cX4_hasBit 2 = .ok (.ishr, 1) := by decide +kernel
theorem dX4_hasBit_3 : decode cX4_hasBit 3 = .ok (.iconst 1, 1) := by decide +kernel
theorem dX4_hasBit_4 : decode cX4_hasBit 4 = .ok (.iand, 1) := by decide +kernel
theorem dX4_hasBit_5 : decode cX4_hasBit 5 = .ok (.iconst 1, 1) := by decide +kernel
theorem dX4_hasBit_6 : decode cX4_hasBit 6 = .ok (.if_icmp .ne 7, 3) := by decide +kernel
theorem dX4_hasBit_9 : decode cX4_hasBit 9 = .ok (.iconst 1, 1) := by decide +kernel
theorem dX4_hasBit_10 : decode cX4_hasBit 10 = .ok (.goto 4, 3) := by decide +kernel
theorem dX4_hasBit_13 : decode cX4_hasBit 13 = .ok (.iconst 0, 1) := by decide +kernel
theorem dX4_hasBit_14 : decode cX4_hasBit 14 = .ok (.ireturn, 1) := by decide +kernel
theorem dX4_withBit_0 : decode cX4_withBit 0 = .ok (.iload_n 2, 1) := by decide +kernel
theorem dX4_withBit_1 : decode cX4_withBit 1 = .ok (.ifCond .eq 11, 3) := by decide +kernel
theorem dX4_withBit_4 : decode cX4_withBit 4 = .ok (.iload_n 0, 1) := by decide +kernel
theorem dX4_withBit_5 : decode cX4_withBit 5 = .ok (.iconst 1, 1) := by decide +kernel
theorem dX4_withBit_6 : decode cX4_withBit 6 = .ok (.iload_n 1, 1) := by decide +kernel
theorem dX4_withBit_7 : decode cX4_withBit 7 = .ok (.ishl, 1) := by decide +kernel
theorem dX4_withBit_8 : decode cX4_withBit 8 = .ok (.ior, 1) := by decide +kernel
theorem dX4_withBit_9 : decode cX4_withBit 9 = .ok (.goto 10, 3) := by decide +kernel
theorem dX4_withBit_12 : decode cX4_withBit 12 = .ok (.iload_n 0, 1) := by decide +kernel
theorem dX4_withBit_13 : decode cX4_withBit 13 = .ok (.iconst 1, 1) := by decide +kernel
theorem dX4_withBit_14 : decode cX4_withBit 14 = .ok (.iload_n 1, 1) := by decide +kernel
theorem dX4_withBit_15 : decode cX4_withBit 15 = .ok (.ishl, 1) := by decide +kernel
theorem dX4_withBit_16 : decode cX4_withBit 16 = .ok (.iconst (-1), 1) := by decide +kernel
theorem dX4_withBit_17 : decode cX4_withBit 17 = .ok (.ixor, 1) := by decide +kernel
theorem dX4_withBit_18 : decode cX4_withBit 18 = .ok (.iand, 1) := by decide +kernel
theorem dX4_withBit_19 : decode cX4_withBit 19 = .ok (.ireturn, 1) := by decide +kernel
set_option maxRecDepth 20000 in
theorem ggX4_firstPerson_X4_hasBit : GoodIn wsX4_firstPerson wsX4_hasBit := goodIn_r _ [4] (by decide +kernel) (by decide +kernel)
set_option maxRecDepth 20000 in
theorem gX4_firstPerson_X4_hasBit : GoodIn wsX4_firstPerson (va_wsS RX4 110 yX4_hasBit wsX4_hasBit) := goodIn_app (goodIn_of _ (by decide +kernel)) ggX4_firstPerson_X4_hasBit
theorem dX4_firstPerson_0 : decode cX4_firstPerson 0 = .ok (.iconst 0, 1) := by decide +kernel
theorem dX4_firstPerson_1 : decode cX4_firstPerson 1 = .ok (.istore_n 1, 1) := by decide +kernel
theorem dX4_firstPerson_2 : decode cX4_firstPerson 2 = .ok (.iload_n 1, 1) := by decide +kernel
theorem dX4_firstPerson_3 : decode cX4_firstPerson 3 = .ok (.bipush 6, 2) := by decide +kernel
theorem dX4_firstPerson_5 : decode cX4_firstPerson 5 = .ok (.if_icmp .ge 19, 3) := by decide +kernel
theorem dX4_firstPerson_8 : decode cX4_firstPerson 8 = .ok (.iload_n 0, 1) := by decide +kernel
theorem dX4_firstPerson_9 : decode cX4_firstPerson 9 = .ok (.iload_n 1, 1) := by decide +kernel
theorem dX4_firstPerson_10 : decode cX4_firstPerson 10 = .ok (.invokestatic 110, 3) := by decide +kernel
theorem dX4_firstPerson_13 : decode cX4_firstPerson 13 = .ok (.ifCond .eq 5, 3) := by decide +kernel
theorem dX4_firstPerson_16 : decode cX4_firstPerson 16 = .ok (.iload_n 1, 1) := by decide +kernel
theorem dX4_firstPerson_17 : decode cX4_firstPerson 17 = .ok (.ireturn, 1) := by decide +kernel
theorem dX4_firstPerson_18 : decode cX4_firstPerson 18 = .ok (.iinc 1 1, 3) := by decide +kernel
theorem dX4_firstPerson_21 : decode cX4_firstPerson 21 = .ok (.goto (-19), 3) := by decide +kernel
theorem dX4_firstPerson_24 : decode cX4_firstPerson 24 = .ok (.bipush (-6), 2) := by decide +kernel
theorem dX4_firstPerson_26 : decode cX4_firstPerson 26 = .ok (.ireturn, 1) := by decide +kernel
set_option maxRecDepth 20000 in
theorem ggX4_fraction_X4_commonDivisor : GoodIn wsX4_fraction wsX4_commonDivisor := goodIn_r _ [4] (by decide +kernel) (by decide +kernel)
set_option maxRecDepth 20000 in
theorem gX4_fraction_X4_commonDivisor : GoodIn wsX4_fraction (va_wsS RX4 205 yX4_commonDivisor wsX4_commonDivisor) := goodIn_app (goodIn_of _ (by decide +kernel)) ggX4_fraction_X4_commonDivisor
theorem dX4_fraction_0 : decode cX4_fraction 0 = .ok (.iload_n 0, 1) := by decide +kernel
theorem dX4_fraction_1 : decode cX4_fraction 1 = .ok (.iload_n 1, 1) := by decide +kernel
theorem dX4_fraction_2 : decode cX4_fraction 2 = .ok (.invokestatic 205, 3) := by decide +kernel
theorem dX4_fraction_5 : decode cX4_fraction 5 = .ok (.istore_n 3, 1) := by decide +kernel
theorem dX4_fraction_6 : decode cX4_fraction 6 = .ok (.iload_n 3, 1) := by decide +kernel
theorem dX4_fraction_7 : decode cX4_fraction 7 = .ok (.iconst 1, 1) := by decide +kernel
theorem dX4_fraction_8 : decode cX4_fraction 8 = .ok (.if_icmp .ge 5, 3) := by decide +kernel
theorem dX4_fraction_11 : decode cX4_fraction 11 = .ok (.lconst 0, 1) := by decide +kernel
theorem dX4_fraction_12 : decode cX4_fraction 12 = .ok (.lreturn, 1) := by decide +kernel
theorem dX4_fraction_13 : decode cX4_fraction 13 = .ok (.iload_n 2, 1) := by decide +kernel
theorem dX4_fraction_14 : decode cX4_fraction 14 = .ok (.ifCond .ne 7, 3) := by decide +kernel
theorem dX4_fraction_17 : decode cX4_fraction 17 = .ok (.iload_n 0, 1) := by decide +kernel
theorem dX4_fraction_18 : decode cX4_fraction 18 = .ok (.goto 4, 3) := by decide +kernel
theorem dX4_fraction_21 : decode cX4_fraction 21 = .ok (.iload_n 1, 1) := by decide +kernel
theorem dX4_fraction_22 : decode cX4_fraction 22 = .ok (.iload_n 3, 1) := by decide +kernel
theorem dX4_fraction_23 : decode cX4_fraction 23 = .ok (.idiv, 1) := by decide +kernel
theorem dX4_fraction_24 : decode cX4_fraction 24 = .ok (.i2l, 1) := by decide +kernel
theorem dX4_fraction_25 : decode cX4_fraction 25 = .ok (.lreturn, 1) := by decide +kernel
theorem dX4_commonDivisor_0 : decode cX4_commonDivisor 0 = .ok (.iload_n 0, 1) := by decide +kernel
theorem dX4_commonDivisor_1 : decode cX4_commonDivisor 1 = .ok (.istore_n 2, 1) := by decide +kernel
theorem dX4_commonDivisor_2 : decode cX4_commonDivisor 2 = .ok (.iload_n 1, 1) := by decide +kernel
theorem dX4_commonDivisor_3 : decode cX4_commonDivisor 3 = .ok (.istore_n 3, 1) := by decide +kernel
theorem dX4_commonDivisor_4 : decode cX4_commonDivisor 4 = .ok (.iconst 0, 1) := by decide +kernel
theorem dX4_commonDivisor_5 : decode cX4_commonDivisor 5 = .ok (.istore 4, 2) := by decide +kernel
theorem dX4_commonDivisor_7 : decode cX4_commonDivisor 7 = .ok (.iload 4, 2) := by decide +kernel
theorem dX4_commonDivisor_9 : decode cX4_commonDivisor 9 = .ok (.sipush 1000, 3) := by decide +kernel
theorem dX4_commonDivisor_12 : decode cX4_commonDivisor 12 = .ok (.if_icmp .ge 23, 3) := by decide +kernel
theorem dX4_commonDivisor_15 : decode cX4_commonDivisor 15 = .ok (.iload_n 3, 1) := by decide +kernel
theorem dX4_commonDivisor_16 : decode cX4_commonDivisor 16 = .ok (.ifCond .eq 19, 3) := by decide +kernel
theorem dX4_commonDivisor_19 : decode cX4_commonDivisor 19 = .ok (.iload_n 2, 1) := by decide +kernel
theorem dX4_commonDivisor_20 : decode cX4_commonDivisor 20 = .ok (.iload_n 3, 1) := by decide +kernel
theorem dX4_commonDivisor_21 : decode cX4_commonDivisor 21 = .ok (.irem, 1) := by decide +kernel
theorem dX4_commonDivisor_22 : decode cX4_commonDivisor 22 = .ok (.istore 5, 2) := by decide +kernel
theorem dX4_commonDivisor_24 : decode cX4_commonDivisor 24 = .ok (.iload_n 3, 1) := by decide +kernel
theorem dX4_commonDivisor_25 : decode cX4_commonDivisor 25 = .ok (.istore_n 2, 1) := by decide +kernel
theorem dX4_commonDivisor_26 : decode cX4_commonDivisor 26 = .ok (.iload 5, 2) := by decide +kernel
theorem dX4_commonDivisor_28 : decode cX4_commonDivisor 28 = .ok (.istore_n 3, 1) := by decide +kernel
theorem dX4_commonDivisor_29 : decode cX4_commonDivisor 29 = .ok (.iinc 4 1, 3) := by decide +kernel
theorem dX4_commonDivisor_32 : decode cX4_commonDivisor 32 = .ok (.goto (-25), 3) := by decide +kernel
theorem dX4_commonDivisor_35 : decode cX4_commonDivisor 35 = .ok (.iload_n 2, 1) := by decide +kernel
theorem dX4_commonDivisor_36 : decode cX4_commonDivisor 36 = .ok (.ireturn, 1) := by decide +kernel
theorem dX5_init_0 : decode cX5_init 0 = .ok (.aload_n 0, 1) := by decide +kernel
theorem dX5_init_1 : decode cX5_init 1 = .ok (.invokespecial 1, 3) := by decide +kernel
theorem dX5_init_4 : decode cX5_init 4 = .ok (.aload_n 0, 1) := by decide +kernel
theorem dX5_init_5 : decode cX5_init 5 = .ok (.bipush 6, 2) := by decide +kernel
theorem dX5_init_7 : decode cX5_init 7 = .ok (.newarray .int, 2) := by decide +kernel
theorem dX5_init_9 : decode cX5_init 9 = .ok (.putfield 7, 3) := by decide +kernel
theorem dX5_init_12 : decode cX5_init 12 = .ok (.aload_n 0, 1) := by decide +kernel
theorem dX5_init_13 : decode cX5_init 13 = .ok (.bipush 6, 2) := by decide +kernel
theorem dX5_init_15 : decode cX5_init 15 = .ok (.newarray .int, 2) := by decide +kernel
theorem dX5_init_17 : decode cX5_init 17 = .ok (.putfield 13, 3) := by decide +kernel
theorem dX5_init_20 : decode cX5_init 20 = .ok (.aload_n 0, 1) := by decide +kernel
theorem dX5_init_21 : decode cX5_init 21 = .ok (.bipush 6, 2) := by decide +kernel
theorem dX5_init_23 : decode cX5_init 23 = .ok (.newarray .int, 2) := by decide +kernel
theorem dX5_init_25 : decode cX5_init 25 = .ok (.putfield 16, 3) := by decide +kernel
theorem dX5_init_28 : decode cX5_init 28 = .ok (.aload_n 0, 1) := by decide +kernel
theorem dX5_init_29 : decode cX5_init 29 = .ok (.bipush 10, 2) := by decide +kernel
theorem dX5_init_31 : decode cX5_init 31 = .ok (.newarray .int, 2) := by decide +kernel
theorem dX5_init_33 : decode cX5_init 33 = .ok (.putfield 19, 3) := by decide +kernel
theorem dX5_init_36 : decode cX5_init 36 = .ok (.aload_n 0, 1) := by decide +kernel
theorem dX5_init_37 : decode cX5_init 37 = .ok (.bipush 6, 2) := by decide +kernel
theorem dX5_init_39 : decode cX5_init 39 = .ok (.newarray .int, 2) := by decide +kernel
theorem dX5_init_41 : decode cX5_init 41 = .ok (.putfield 22, 3) := by decide +kernel
theorem dX5_init_44 : decode cX5_init 44 = .ok (.aload_n 0, 1) := by decide +kernel
theorem dX5_init_45 : decode cX5_init 45 = .ok (.bipush 6, 2) := by decide +kernel
theorem dX5_init_47 : decode cX5_init 47 = .ok (.newarray .int, 2) := by decide +kernel
theorem dX5_init_49 : decode cX5_init 49 = .ok (.putfield 25, 3) := by decide +kernel
theorem dX5_init_52 : decode cX5_init 52 = .ok (.aload_n 0, 1) := by decide +kernel
theorem dX5_init_53 : decode cX5_init 53 = .ok (.bipush 40, 2) := by decide +kernel
theorem dX5_init_55 : decode cX5_init 55 = .ok (.newarray .int, 2) := by decide +kernel
theorem dX5_init_57 : decode cX5_init 57 = .ok (.putfield 28, 3) := by decide +kernel
theorem dX5_init_60 : decode cX5_init 60 = .ok (.aload_n 0, 1) := by decide +kernel
theorem dX5_init_61 : decode cX5_init 61 = .ok (.bipush 9, 2) := by decide +kernel
theorem dX5_init_63 : decode cX5_init 63 = .ok (.newarray .int, 2) := by decide +kernel
theorem dX5_init_65 : decode cX5_init 65 = .ok (.putfield 31, 3) := by decide +kernel
theorem dX5_init_68 : decode cX5_init 68 = .ok (.aload_n 0, 1) := by decide +kernel
theorem dX5_init_69 : decode cX5_init 69 = .ok (.bipush 6, 2) := by decide +kernel
theorem dX5_init_71 : decode cX5_init 71 = .ok (.newarray .int, 2) := by decide +kernel
theorem dX5_init_73 : decode cX5_init 73 = .ok (.putfield 34, 3) := by decide +kernel
theorem dX5_init_76 : decode cX5_init 76 = .ok (.aload_n 0, 1) := by decide +kernel
theorem dX5_init_77 : decode cX5_init 77 = .ok (.sipush 160, 3) := by decide +kernel
theorem dX5_init_80 : decode cX5_init 80 = .ok (.newarray .int, 2) := by decide +kernel
theorem dX5_init_82 : decode cX5_init 82 = .ok (.putfield 37, 3) := by decide +kernel
theorem dX5_init_85 : decode cX5_init 85 = .ok (.aload_n 0, 1) := by decide +kernel
theorem dX5_init_86 : decode cX5_init 86 = .ok (.iconst 2, 1) := by decide +kernel
theorem dX5_init_87 : decode cX5_init 87 = .ok (.newarray .boolean, 2) := by decide +kernel
theorem dX5_init_89 : decode cX5_init 89 = .ok (.putfield 40, 3) := by decide +kernel
theorem dX5_init_92 : decode cX5_init 92 = .ok (.aload_n 0, 1) := by decide +kernel
theorem dX5_init_93 : decode cX5_init 93 = .ok (.iconst 2, 1) := by decide +kernel
theorem dX5_init_94 : decode cX5_init 94 = .ok (.putfield 44, 3) := by decide +kernel
theorem dX5_init_97 : decode cX5_init 97 = .ok (.aload_n 0, 1) := by decide +kernel
theorem dX5_init_98 : decode cX5_init 98 = .ok (.iconst 5, 1) := by decide +kernel
theorem dX5_init_99 : decode cX5_init 99 = .ok (.putfield 48, 3) := by decide +kernel
theorem dX5_init_102 : decode cX5_init 102 = .ok (.iconst 0, 1) := by decide +kernel
theorem dX5_init_103 : decode cX5_init 103 = .ok (.istore_n 1, 1) := by decide +kernel
theorem dX5_init_104 : decode cX5_init 104 = .ok (.iload_n 1, 1) := by decide +kernel
theorem dX5_init_105 : decode cX5_init 105 = .ok (.bipush 10, 2) := by decide +kernel
theorem dX5_init_107 : decode cX5_init 107 = .ok (.if_icmp .ge 16, 3) := by decide +kernel
theorem dX5_init_110 : decode cX5_init 110 = .ok (.aload_n 0, 1) := by decide +kernel
theorem dX5_init_111 : decode cX5_init 111 = .ok (.getfield 19, 3) := by decide +kernel
theorem dX5_init_114 : decode cX5_init 114 = .ok (.iload_n 1, 1) := by decide +kernel
theorem dX5_init_115 : decode cX5_init 115 = .ok (.iconst 1, 1) := by decide +kernel
theorem dX5_init_116 : decode cX5_init 116 = .ok (.iastore, 1) := by decide +kernel
theorem dX5_init_117 : decode cX5_init 117 = .ok (.iinc 1 1, 3) := by decide +kernel
theorem dX5_init_120 : decode cX5_init 120 = .ok (.goto (-16), 3) := by decide +kernel
theorem dX5_init_123 : decode cX5_init 123 = .ok (.return_, 1) := by decide +kernel
theorem dX5_in_0 : decode cX5_in 0 = .ok (.lload_n 0, 1) := by decide +kernel
theorem dX5_in_1 : decode cX5_in 1 = .ok (.lload_n 2, 1) := by decide +kernel
theorem dX5_in_2 : decode cX5_in 2 = .ok (.lcmp, 1) := by decide +kernel
theorem dX5_in_3 : decode cX5_in 3 = .ok (.ifCond .lt 14, 3) := by decide +kernel
theorem dX5_in_6 : decode cX5_in 6 = .ok (.lload_n 0, 1) := by decide +kernel
theorem dX5_in_7 : decode cX5_in 7 = .ok (.lload 4, 2) := by decide +kernel
theorem dX5_in_9 : decode cX5_in 9 = .ok (.lcmp, 1) := by decide +kernel
theorem dX5_in_10 : decode cX5_in 10 = .ok (.ifCond .gt 7, 3) := by decide +kernel
theorem dX5_in_13 : decode cX5_in 13 = .ok (.iconst 1, 1) := by decide +kernel
theorem dX5_in_14 : decode cX5_in 14 = .ok (.goto 4, 3) := by decide +kernel
theorem dX5_in_17 : decode cX5_in 17 = .ok (.iconst 0, 1) := by decide +kernel
theorem dX5_in_18 : decode cX5_in 18 = .ok (.ireturn, 1) := by decide +kernel
theorem dX5_ones_0 : decode cX5_ones 0 = .ok (.iconst 0, 1) := by decide +kernel
theorem dX5_ones_1 : decode cX5_ones 1 = .ok (.istore_n 1, 1) := by decide +kernel
theorem dX5_ones_2 : decode cX5_ones 2 = .ok (.iload_n 0, 1) := by decide +kernel
theorem dX5_ones_3 : decode cX5_ones 3 = .ok (.istore_n 2, 1) := by decide +kernel
theorem dX5_ones_4 : decode cX5_ones 4 = .ok (.iload_n 2, 1) := by decide +kernel
theorem dX5_ones_5 : decode cX5_ones 5 = .ok (.ifCond .eq 15, 3) := by decide +kernel
theorem dX5_ones_8 : decode cX5_ones 8 = .ok (.iinc 1 1, 3) := by decide +kernel
theorem dX5_ones_11 : decode cX5_ones 11 = .ok (.iload_n 2, 1) := by decide +kernel
theorem dX5_ones_12 : decode cX5_ones 12 = .ok (.iload_n 2, 1) := by decide +kernel
theorem dX5_ones_13 : decode cX5_ones 13 = .ok (.iconst 1, 1) := by decide +kernel
theorem dX5_ones_14 : decode cX5_ones 14 = .ok (.isub, 1) := by decide +kernel
theorem dX5_ones_15 : decode cX5_ones 15 = .ok (.iand, 1) := by decide +kernel
theorem dX5_ones_16 : decode cX5_ones 16 = .ok (.istore_n 2, 1) := by decide +kernel
theorem dX5_ones_17 : decode cX5_ones 17 = .ok (.goto (-13), 3) := by decide +kernel
theorem dX5_ones_20 : decode cX5_ones 20 = .ok (.iload_n 1, 1) := by decide +kernel
theorem dX5_ones_21 : decode cX5_ones 21 = .ok (.ireturn, 1) := by decide +kernel
set_option maxRecDepth 20000 in
theorem ggX5_isPerson_X5_in : GoodIn wsX5_isPerson wsX5_in := goodIn_r _ [5] (by decide +kernel) (by decide +kernel)
set_option maxRecDepth 20000 in
theorem gX5_isPerson_X5_in : GoodIn wsX5_isPerson (va_wsS RX5 53 yX5_in wsX5_in) := goodIn_app (goodIn_of _ (by decide +kernel)) ggX5_isPerson_X5_in
theorem dX5_isPerson_0 : decode cX5_isPerson 0 = .ok (.iload_n 0, 1) := by decide +kernel
theorem dX5_isPerson_1 : decode cX5_isPerson 1 = .ok (.i2l, 1) := by decide +kernel
theorem dX5_isPerson_2 : decode cX5_isPerson 2 = .ok (.lconst 0, 1) := by decide +kernel
theorem dX5_isPerson_3 : decode cX5_isPerson 3 = .ok (.ldc2_w 51, 3) := by decide +kernel
theorem dX5_isPerson_6 : decode cX5_isPerson 6 = .ok (.invokestatic 53, 3) := by decide +kernel
theorem dX5_isPerson_9 : decode cX5_isPerson 9 = .ok (.ireturn, 1) := by decide +kernel
set_option maxRecDepth 20000 in
theorem ggX5_isPlace_X5_in : GoodIn wsX5_isPlace wsX5_in := goodIn_r _ [5] (by decide +kernel) (by decide +kernel)
set_option maxRecDepth 20000 in
theorem gX5_isPlace_X5_in : GoodIn wsX5_isPlace (va_wsS RX5 53 yX5_in wsX5_in) := goodIn_app (goodIn_of _ (by decide +kernel)) ggX5_isPlace_X5_in
theorem dX5_isPlace_0 : decode cX5_isPlace 0 = .ok (.iload_n 0, 1) := by decide +kernel
theorem dX5_isPlace_1 : decode cX5_isPlace 1 = .ok (.i2l, 1) := by decide +kernel
theorem dX5_isPlace_2 : decode cX5_isPlace 2 = .ok (.lconst 0, 1) := by decide +kernel
theorem dX5_isPlace_3 : decode cX5_isPlace 3 = .ok (.ldc2_w 57, 3) := by decide +kernel
theorem dX5_isPlace_6 : decode cX5_isPlace 6 = .ok (.invokestatic 53, 3) := by decide +kernel
theorem dX5_isPlace_9 : decode cX5_isPlace 9 = .ok (.ireturn, 1) := by decide +kernel
set_option maxRecDepth 20000 in
theorem ggX5_isThere_X5_isPerson : GoodIn wsX5_isThere wsX5_isPerson := goodIn_r _ [5, 6, 7, 8, 4, 9] (by decide +kernel) (by decide +kernel)
set_option maxRecDepth 20000 in
theorem gX5_isThere_X5_isPerson : GoodIn wsX5_isThere (va_wsS RX5 59 yX5_isPerson wsX5_isPerson) := goodIn_app (goodIn_of _ (by decide +kernel)) ggX5_isThere_X5_isPerson
theorem dX5_isThere_0 : decode cX5_isThere 0 = .ok (.iload_n 1, 1) := by decide +kernel
theorem dX5_isThere_1 : decode cX5_isThere 1 = .ok (.invokestatic 59, 3) := by decide +kernel
theorem dX5_isThere_4 : decode cX5_isThere 4 = .ok (.ifCond .eq 19, 3) := by decide +kernel
theorem dX5_isThere_7 : decode cX5_isThere 7 = .ok (.aload_n 0, 1) := by decide +kernel
theorem dX5_isThere_8 : decode cX5_isThere 8 = .ok (.getfield 63, 3) := by decide +kernel
theorem dX5_isThere_11 : decode cX5_isThere 11 = .ok (.iload_n 1, 1) := by decide +kernel
theorem dX5_isThere_12 : decode cX5_isThere 12 = .ok (.ishr, 1) := by decide +kernel
theorem dX5_isThere_13 : decode cX5_isThere 13 = .ok (.iconst 1, 1) := by decide +kernel
theorem dX5_isThere_14 : decode cX5_isThere 14 = .ok (.iand, 1) := by decide +kernel
theorem dX5_isThere_15 : decode cX5_isThere 15 = .ok (.iconst 1, 1) := by decide +kernel
theorem dX5_isThere_16 : decode cX5_isThere 16 = .ok (.if_icmp .ne 7, 3) := by decide +kernel
theorem dX5_isThere_19 : decode cX5_isThere 19 = .ok (.iconst 1, 1) := by decide +kernel
theorem dX5_isThere_20 : decode cX5_isThere 20 = .ok (.goto 4, 3) := by decide +kernel
theorem dX5_isThere_23 : decode cX5_isThere 23 = .ok (.iconst 0, 1) := by decide +kernel
theorem dX5_isThere_24 : decode cX5_isThere 24 = .ok (.ireturn, 1) := by decide +kernel
set_option maxRecDepth 20000 in
theorem ggX5_stand_X5_isPerson : GoodIn wsX5_stand wsX5_isPerson := goodIn_r _ [10, 11, 12, 13, 9, 14] (by decide +kernel) (by decide +kernel)
set_option maxRecDepth 20000 in
theorem gX5_stand_X5_isPerson : GoodIn wsX5_stand (va_wsS RX5 59 yX5_isPerson wsX5_isPerson) := goodIn_app (goodIn_of _ (by decide +kernel)) ggX5_stand_X5_isPerson
set_option maxRecDepth 20000 in
theorem ggX5_stand_X5_isPlace : GoodIn wsX5_stand wsX5_isPlace := goodIn_r _ [17, 1, 12, 13, 9, 14] (by decide +kernel) (by decide +kernel)
set_option maxRecDepth 20000 in
theorem gX5_stand_X5_isPlace : GoodIn wsX5_stand (va_wsS RX5 66 yX5_isPlace wsX5_isPlace) := goodIn_app (goodIn_of _ (by decide +kernel)) ggX5_stand_X5_isPlace
set_option maxRecDepth 20000 in
theorem ggX5_stand_X5_in : GoodIn wsX5_stand wsX5_in := goodIn_r _ [14] (by decide +kernel) (by decide +kernel)
set_option maxRecDepth 20000 in
theorem gX5_stand_X5_in : GoodIn wsX5_stand (va_wsS RX5 53 yX5_in wsX5_in) := goodIn_app (goodIn_of _ (by decide +kernel)) ggX5_stand_X5_in
set_option maxRecDepth 20000 in
theorem ggX5_stand_X5_ones : GoodIn wsX5_stand wsX5_ones := goodIn_r _ [20] (by decide +kernel) (by decide +kernel)
set_option maxRecDepth 20000 in
theorem gX5_stand_X5_ones : GoodIn wsX5_stand (va_wsS RX5 72 yX5_ones wsX5_ones) := goodIn_app (goodIn_of _ (by decide +kernel)) ggX5_stand_X5_ones
theorem dX5_stand_0 : decode cX5_stand 0 = .ok (.iload_n 1, 1) := by decide +kernel
theorem dX5_stand_1 : decode cX5_stand 1 = .ok (.invokestatic 59, 3) := by decide +kernel
theorem dX5_stand_4 : decode cX5_stand 4 = .ok (.ifCond .eq 10, 3) := by decide +kernel
theorem dX5_stand_7 : decode cX5_stand 7 = .ok (.iload_n 2, 1) := by decide +kernel
theorem dX5_stand_8 : decode cX5_stand 8 = .ok (.invokestatic 66, 3) := by decide +kernel
theorem dX5_stand_11 : decode cX5_stand 11 = .ok (.ifCond .ne 5, 3) := by decide +kernel
theorem dX5_stand_14 : decode cX5_stand 14 = .ok (.iconst (-1), 1) := by decide +kernel
theorem dX5_stand_15 : decode cX5_stand 15 = .ok (.ireturn, 1) := by decide +kernel
theorem dX5_stand_16 : decode cX5_stand 16 = .ok (.iload_n 3, 1) := by decide +kernel
theorem dX5_stand_17 : decode cX5_stand 17 = .ok (.i2l, 1) := by decide +kernel
theorem dX5_stand_18 : decode cX5_stand 18 = .ok (.lconst 0, 1) := by decide +kernel
theorem dX5_stand_19 : decode cX5_stand 19 = .ok (.ldc2_w 57, 3) := by decide +kernel
theorem dX5_stand_22 : decode cX5_stand 22 = .ok (.invokestatic 53, 3) := by decide +kernel
theorem dX5_stand_25 : decode cX5_stand 25 = .ok (.ifCond .eq 14, 3) := by decide +kernel
theorem dX5_stand_28 : decode cX5_stand 28 = .ok (.iload 4, 2) := by decide +kernel
theorem dX5_stand_30 : decode cX5_stand 30 = .ok (.i2l, 1) := by decide +kernel
theorem dX5_stand_31 : decode cX5_stand 31 = .ok (.lconst 0, 1) := by decide +kernel
theorem dX5_stand_32 : decode cX5_stand 32 = .ok (.lconst 1, 1) := by decide +kernel
theorem dX5_stand_33 : decode cX5_stand 33 = .ok (.invokestatic 53, 3) := by decide +kernel
theorem dX5_stand_36 : decode cX5_stand 36 = .ok (.ifCond .ne 6, 3) := by decide +kernel
theorem dX5_stand_39 : decode cX5_stand 39 = .ok (.bipush (-2), 2) := by decide +kernel
theorem dX5_stand_41 : decode cX5_stand 41 = .ok (.ireturn, 1) := by decide +kernel
theorem dX5_stand_42 : decode cX5_stand 42 = .ok (.aload_n 0, 1) := by decide +kernel
theorem dX5_stand_43 : decode cX5_stand 43 = .ok (.getfield 7, 3) := by decide +kernel
theorem dX5_stand_46 : decode cX5_stand 46 = .ok (.iload_n 1, 1) := by decide +kernel
theorem dX5_stand_47 : decode cX5_stand 47 = .ok (.iload_n 2, 1) := by decide +kernel
theorem dX5_stand_48 : decode cX5_stand 48 = .ok (.iastore, 1) := by decide +kernel
theorem dX5_stand_49 : decode cX5_stand 49 = .ok (.aload_n 0, 1) := by decide +kernel
theorem dX5_stand_50 : decode cX5_stand 50 = .ok (.getfield 13, 3) := by decide +kernel
theorem dX5_stand_53 : decode cX5_stand 53 = .ok (.iload_n 1, 1) := by decide +kernel
theorem dX5_stand_54 : decode cX5_stand 54 = .ok (.iload_n 3, 1) := by decide +kernel
theorem dX5_stand_55 : decode cX5_stand 55 = .ok (.iastore, 1) := by decide +kernel
theorem dX5_stand_56 : decode cX5_stand 56 = .ok (.aload_n 0, 1) := by decide +kernel
theorem dX5_stand_57 : decode cX5_stand 57 = .ok (.getfield 16, 3) := by decide +kernel
theorem dX5_stand_60 : decode cX5_stand 60 = .ok (.iload_n 1, 1) := by decide +kernel
theorem dX5_stand_61 : decode cX5_stand 61 = .ok (.iload 4, 2) := by decide +kernel
theorem dX5_stand_63 : decode cX5_stand 63 = .ok (.iastore, 1) := by decide +kernel
theorem dX5_stand_64 : decode cX5_stand 64 = .ok (.aload_n 0, 1) := by decide +kernel
theorem dX5_stand_65 : decode cX5_stand 65 = .ok (.iload 5, 2) := by decide +kernel
theorem dX5_stand_67 : decode cX5_stand 67 = .ok (.ifCond .eq 14, 3) := by decide +kernel
theorem dX5_stand_70 : decode cX5_stand 70 = .ok (.aload_n 0, 1) := by decide +kernel
theorem dX5_stand_71 : decode cX5_stand 71 = .ok (.getfield 69, 3) := by decide +kernel
theorem dX5_stand_74 : decode cX5_stand 74 = .ok (.iconst 1, 1) := by decide +kernel
theorem dX5_stand_75 : decode cX5_stand 75 = .ok (.iload_n 1, 1) := by decide +kernel
theorem dX5_stand_76 : decode cX5_stand 76 = .ok (.ishl, 1) := by decide +kernel
theorem dX5_stand_77 : decode cX5_stand 77 = .ok (.ior, 1) := by decide +kernel
theorem dX5_stand_78 : decode cX5_stand 78 = .ok (.goto 13, 3) := by decide +kernel
theorem dX5_stand_81 : decode cX5_stand 81 = .ok (.aload_n 0, 1) := by decide +kernel
theorem dX5_stand_82 : decode cX5_stand 82 = .ok (.getfield 69, 3) := by decide +kernel
theorem dX5_stand_85 : decode cX5_stand 85 = .ok (.iconst 1, 1) := by decide +kernel
theorem dX5_stand_86 : decode cX5_stand 86 = .ok (.iload_n 1, 1) := by decide +kernel
theorem dX5_stand_87 : decode cX5_stand 87 = .ok (.ishl, 1) := by decide +kernel
theorem dX5_stand_88 : decode cX5_stand 88 = .ok (.iconst (-1), 1) := by decide +kernel
theorem dX5_stand_89 : decode cX5_stand 89 = .ok (.ixor, 1) := by decide +kernel
theorem dX5_stand_90 : decode cX5_stand 90 = .ok (.iand, 1) := by decide +kernel
theorem dX5_stand_91 : decode cX5_stand 91 = .ok (.putfield 69, 3) := by decide +kernel
theorem dX5_stand_94 : decode cX5_stand 94 = .ok (.aload_n 0, 1) := by decide +kernel
theorem dX5_stand_95 : decode cX5_stand 95 = .ok (.dup, 1) := by decide +kernel
theorem dX5_stand_96 : decode cX5_stand 96 = .ok (.getfield 63, 3) := by decide +kernel
theorem dX5_stand_99 : decode cX5_stand 99 = .ok (.iconst 1, 1) := by decide +kernel
theorem dX5_stand_100 : decode cX5_stand 100 = .ok (.iload_n 1, 1) := by decide +kernel
theorem dX5_stand_101 : decode cX5_stand 101 = .ok (.ishl, 1) := by decide +kernel
theorem dX5_stand_102 : decode cX5_stand 102 = .ok (.ior, 1) := by decide +kernel
theorem dX5_stand_103 : decode cX5_stand 103 = .ok (.putfield 63, 3) := by decide +kernel
theorem dX5_stand_106 : decode cX5_stand 106 = .ok (.aload_n 0, 1) := by decide +kernel
theorem dX5_stand_107 : decode cX5_stand 107 = .ok (.getfield 63, 3) := by decide +kernel
theorem dX5_stand_110 : decode cX5_stand 110 = .ok (.invokestatic 72, 3) := by decide +kernel
theorem dX5_stand_113 : decode cX5_stand 113 = .ok (.ireturn, 1) := by decide +kernel
set_option maxRecDepth 20000 in
theorem ggX5_leave_X5_isThere : GoodIn wsX5_leave wsX5_isThere := goodIn_r _ [6, 1, 7, 8, 5, 9, 10, 11, 12, 13, 17, 18, 19, 20, 21, 22, 23, 24, 25, 26, 27, 28, 29, 30, 31, 32, 33, 34, 35, 36, 37, 38, 39, 40] (by decide +kernel) (by decide +kernel)
set_option maxRecDepth 20000 in
theorem gX5_leave_X5_isThere : GoodIn wsX5_leave (wsV RX5 76 RX5 yX5_isThere wsX5_isThere) := goodIn_app (goodIn_of _ (by decide +kernel)) ggX5_leave_X5_isThere
set_option maxRecDepth 20000 in
theorem ggX5_leave_X5_ones : GoodIn wsX5_leave wsX5_ones := goodIn_r _ [16] (by decide +kernel) (by decide +kernel)
set_option maxRecDepth 20000 in
theorem gX5_leave_X5_ones : GoodIn wsX5_leave (va_wsS RX5 72 yX5_ones wsX5_ones) := goodIn_app (goodIn_of _ (by decide +kernel)) ggX5_leave_X5_ones
theorem dX5_leave_0 : decode cX5_leave 0 = .ok (.aload_n 0, 1) := by decide +kernel
theorem dX5_leave_1 : decode cX5_leave 1 = .ok (.iload_n 1, 1) := by decide +kernel
theorem dX5_leave_2 : decode cX5_leave 2 = .ok (.invokevirtual 76, 3) := by decide +kernel
theorem dX5_leave_5 : decode cX5_leave 5 = .ok (.ifCond .ne 5, 3) := by decide +kernel
theorem dX5_leave_8 : decode cX5_leave 8 = .ok (.iconst (-1), 1) := by decide +kernel
theorem dX5_leave_9 : decode cX5_leave 9 = .ok (.ireturn, 1) := by decide +kernel
theorem dX5_leave_10 : decode cX5_leave 10 = .ok (.aload_n 0, 1) := by decide +kernel
theorem dX5_leave_11 : decode cX5_leave 11 = .ok (.dup, 1) := by decide +kernel
theorem dX5_leave_12 : decode cX5_leave 12 = .ok (.getfield 63, 3) := by decide +kernel
theorem dX5_leave_15 : decode cX5_leave 15 = .ok (.iconst 1, 1) := by decide +kernel
theorem dX5_leave_16 : decode cX5_leave 16 = .ok (.iload_n 1, 1) := by decide +kernel
theorem dX5_leave_17 : decode cX5_leave 17 = .ok (.ishl, 1) := by decide +kernel
theorem dX5_leave_18 : decode cX5_leave 18 = .ok (.iconst (-1), 1) := by decide +kernel
theorem dX5_leave_19 : decode cX5_leave 19 = .ok (.ixor, 1) := by decide +kernel
theorem dX5_leave_20 : decode cX5_leave 20 = .ok (.iand, 1) := by decide +kernel
theorem dX5_leave_21 : decode cX5_leave 21 = .ok (.putfield 63, 3) := by decide +kernel
theorem dX5_leave_24 : decode cX5_leave 24 = .ok (.aload_n 0, 1) := by decide +kernel
theorem dX5_leave_25 : decode cX5_leave 25 = .ok (.getfield 63, 3) := by decide +kernel
theorem dX5_leave_28 : decode cX5_leave 28 = .ok (.invokestatic 72, 3) := by decide +kernel
theorem dX5_leave_31 : decode cX5_leave 31 = .ok (.ireturn, 1) := by decide +kernel
set_option maxRecDepth 20000 in
theorem ggX5_table_X5_isPlace : GoodIn wsX5_table wsX5_isPlace := goodIn_r _ [5, 6, 7, 8, 4, 9] (by decide +kernel) (by decide +kernel)
set_option maxRecDepth 20000 in
theorem gX5_table_X5_isPlace : GoodIn wsX5_table (va_wsS RX5 66 yX5_isPlace wsX5_isPlace) := goodIn_app (goodIn_of _ (by decide +kernel)) ggX5_table_X5_isPlace
theorem dX5_table_0 : decode cX5_table 0 = .ok (.iload_n 1, 1) := by decide +kernel
theorem dX5_table_1 : decode cX5_table 1 = .ok (.invokestatic 66, 3) := by decide +kernel
theorem dX5_table_4 : decode cX5_table 4 = .ok (.ifCond .ne 5, 3) := by decide +kernel
theorem dX5_table_7 : decode cX5_table 7 = .ok (.iconst (-1), 1) := by decide +kernel
theorem dX5_table_8 : decode cX5_table 8 = .ok (.ireturn, 1) := by decide +kernel
theorem dX5_table_9 : decode cX5_table 9 = .ok (.aload_n 0, 1) := by decide +kernel
theorem dX5_table_10 : decode cX5_table 10 = .ok (.iload_n 2, 1) := by decide +kernel
theorem dX5_table_11 : decode cX5_table 11 = .ok (.ifCond .eq 14, 3) := by decide +kernel
theorem dX5_table_14 : decode cX5_table 14 = .ok (.aload_n 0, 1) := by decide +kernel
theorem dX5_table_15 : decode cX5_table 15 = .ok (.getfield 79, 3) := by decide +kernel
theorem dX5_table_18 : decode cX5_table 18 = .ok (.iconst 1, 1) := by decide +kernel
theorem dX5_table_19 : decode cX5_table 19 = .ok (.iload_n 1, 1) := by decide +kernel
theorem dX5_table_20 : decode cX5_table 20 = .ok (.ishl, 1) := by decide +kernel
theorem dX5_table_21 : decode cX5_table 21 = .ok (.ior, 1) := by decide +kernel
theorem dX5_table_22 : decode cX5_table 22 = .ok (.goto 13, 3) := by decide +kernel
theorem dX5_table_25 : decode cX5_table 25 = .ok (.aload_n 0, 1) := by decide +kernel
theorem dX5_table_26 : decode cX5_table 26 = .ok (.getfield 79, 3) := by decide +kernel
theorem dX5_table_29 : decode cX5_table 29 = .ok (.iconst 1, 1) := by decide +kernel
theorem dX5_table_30 : decode cX5_table 30 = .ok (.iload_n 1, 1) := by decide +kernel
theorem dX5_table_31 : decode cX5_table 31 = .ok (.ishl, 1) := by decide +kernel
theorem dX5_table_32 : decode cX5_table 32 = .ok (.iconst (-1), 1) := by decide +kernel
theorem dX5_table_33 : decode cX5_table 33 = .ok (.ixor, 1) := by decide +kernel
theorem dX5_table_34 : decode cX5_table 34 = .ok (.iand, 1) := by decide +kernel
theorem dX5_table_35 : decode cX5_table 35 = .ok (.putfield 79, 3) := by decide +kernel
theorem dX5_table_38 : decode cX5_table 38 = .ok (.iconst 1, 1) := by decide +kernel
theorem dX5_table_39 : decode cX5_table 39 = .ok (.ireturn, 1) := by decide +kernel
set_option maxRecDepth 20000 in
theorem ggX5_set_X5_in : GoodIn wsX5_set wsX5_in := goodIn_r _ [7] (by decide +kernel) (by decide +kernel)
set_option maxRecDepth 20000 in
theorem gX5_set_X5_in : GoodIn wsX5_set (va_wsS RX5 53 yX5_in wsX5_in) := goodIn_app (goodIn_of _ (by decide +kernel)) ggX5_set_X5_in
theorem dX5_set_0 : decode cX5_set 0 = .ok (.iload_n 1, 1) := by decide +kernel
theorem dX5_set_1 : decode cX5_set 1 = .ok (.i2l, 1) := by decide +kernel
theorem dX5_set_2 : decode cX5_set 2 = .ok (.lconst 0, 1) := by decide +kernel
theorem dX5_set_3 : decode cX5_set 3 = .ok (.lconst 1, 1) := by decide +kernel
theorem dX5_set_4 : decode cX5_set 4 = .ok (.invokestatic 53, 3) := by decide +kernel
theorem dX5_set_7 : decode cX5_set 7 = .ok (.ifCond .eq 23, 3) := by decide +kernel
theorem dX5_set_10 : decode cX5_set 10 = .ok (.iload_n 2, 1) := by decide +kernel
theorem dX5_set_11 : decode cX5_set 11 = .ok (.i2l, 1) := by decide +kernel
theorem dX5_set_12 : decode cX5_set 12 = .ok (.iload_n 1, 1) := by decide +kernel
theorem dX5_set_13 : decode cX5_set 13 = .ok (.ifCond .ne 7, 3) := by decide +kernel
theorem dX5_set_16 : decode cX5_set 16 = .ok (.lconst 1, 1) := by decide +kernel
theorem dX5_set_17 : decode cX5_set 17 = .ok (.goto 4, 3) := by decide +kernel
theorem dX5_set_20 : decode cX5_set 20 = .ok (.lconst 0, 1) := by decide +kernel
theorem dX5_set_21 : decode cX5_set 21 = .ok (.ldc2_w 57, 3) := by decide +kernel
theorem dX5_set_24 : decode cX5_set 24 = .ok (.invokestatic 53, 3) := by decide +kernel
theorem dX5_set_27 : decode cX5_set 27 = .ok (.ifCond .ne 6, 3) := by decide +kernel
theorem dX5_set_30 : decode cX5_set 30 = .ok (.bipush (-2), 2) := by decide +kernel
theorem dX5_set_32 : decode cX5_set 32 = .ok (.ireturn, 1) := by decide +kernel
theorem dX5_set_33 : decode cX5_set 33 = .ok (.iload_n 1, 1) := by decide +kernel
theorem dX5_set_34 : decode cX5_set 34 = .ok (.ifCond .ne 10, 3) := by decide +kernel
theorem dX5_set_37 : decode cX5_set 37 = .ok (.aload_n 0, 1) := by decide +kernel
theorem dX5_set_38 : decode cX5_set 38 = .ok (.getfield 44, 3) := by decide +kernel
theorem dX5_set_41 : decode cX5_set 41 = .ok (.goto 7, 3) := by decide +kernel
theorem dX5_set_44 : decode cX5_set 44 = .ok (.aload_n 0, 1) := by decide +kernel
theorem dX5_set_45 : decode cX5_set 45 = .ok (.getfield 48, 3) := by decide +kernel
theorem dX5_set_48 : decode cX5_set 48 = .ok (.istore_n 3, 1) := by decide +kernel
theorem dX5_set_49 : decode cX5_set 49 = .ok (.aload_n 0, 1) := by decide +kernel
theorem dX5_set_50 : decode cX5_set 50 = .ok (.iload_n 1, 1) := by decide +kernel
theorem dX5_set_51 : decode cX5_set 51 = .ok (.ifCond .ne 7, 3) := by decide +kernel
theorem dX5_set_54 : decode cX5_set 54 = .ok (.iload_n 2, 1) := by decide +kernel
theorem dX5_set_55 : decode cX5_set 55 = .ok (.goto 7, 3) := by decide +kernel
theorem dX5_set_58 : decode cX5_set 58 = .ok (.aload_n 0, 1) := by decide +kernel
theorem dX5_set_59 : decode cX5_set 59 = .ok (.getfield 44, 3) := by decide +kernel
theorem dX5_set_62 : decode cX5_set 62 = .ok (.putfield 44, 3) := by decide +kernel
theorem dX5_set_65 : decode cX5_set 65 = .ok (.aload_n 0, 1) := by decide +kernel
theorem dX5_set_66 : decode cX5_set 66 = .ok (.iload_n 1, 1) := by decide +kernel
theorem dX5_set_67 : decode cX5_set 67 = .ok (.iconst 1, 1) := by decide +kernel
theorem dX5_set_68 : decode cX5_set 68 = .ok (.if_icmp .ne 7, 3) := by decide +kernel
theorem dX5_set_71 : decode cX5_set 71 = .ok (.iload_n 2, 1) := by decide +kernel
theorem dX5_set_72 : decode cX5_set 72 = .ok (.goto 7, 3) := by decide +kernel
theorem dX5_set_75 : decode cX5_set 75 = .ok (.aload_n 0, 1) := by decide +kernel
theorem dX5_set_76 : decode cX5_set 76 = .ok (.getfield 48, 3) := by decide +kernel
theorem dX5_set_79 : decode cX5_set 79 = .ok (.putfield 48, 3) := by decide +kernel
theorem dX5_set_82 : decode cX5_set 82 = .ok (.iload_n 3, 1) := by decide +kernel
theorem dX5_set_83 : decode cX5_set 83 = .ok (.ireturn, 1) := by decide +kernel
set_option maxRecDepth 20000 in
theorem ggX5_say_X5_in : GoodIn wsX5_say wsX5_in := goodIn_r _ [8] (by decide +kernel) (by decide +kernel)
set_option maxRecDepth 20000 in
theorem gX5_say_X5_in : GoodIn wsX5_say (va_wsS RX5 53 yX5_in wsX5_in) := goodIn_app (goodIn_of _ (by decide +kernel)) ggX5_say_X5_in
theorem dX5_say_0 : decode cX5_say 0 = .ok (.iload_n 1, 1) := by decide +kernel
theorem dX5_say_1 : decode cX5_say 1 = .ok (.i2l, 1) := by decide +kernel
theorem dX5_say_2 : decode cX5_say 2 = .ok (.ldc2_w 82, 3) := by decide +kernel
theorem dX5_say_5 : decode cX5_say 5 = .ok (.ldc2_w 84, 3) := by decide +kernel
theorem dX5_say_8 : decode cX5_say 8 = .ok (.invokestatic 53, 3) := by decide +kernel
theorem dX5_say_11 : decode cX5_say 11 = .ok (.ifCond .ne 6, 3) := by decide +kernel
theorem dX5_say_14 : decode cX5_say 14 = .ok (.bipush (-2), 2) := by decide +kernel
theorem dX5_say_16 : decode cX5_say 16 = .ok (.ireturn, 1) := by decide +kernel
theorem dX5_say_17 : decode cX5_say 17 = .ok (.aload_n 0, 1) := by decide +kernel
theorem dX5_say_18 : decode cX5_say 18 = .ok (.getfield 86, 3) := by decide +kernel
theorem dX5_say_21 : decode cX5_say 21 = .ok (.bipush 40, 2) := by decide +kernel
theorem dX5_say_23 : decode cX5_say 23 = .ok (.if_icmp .ne 6, 3) := by decide +kernel
theorem dX5_say_26 : decode cX5_say 26 = .ok (.bipush (-4), 2) := by decide +kernel
theorem dX5_say_28 : decode cX5_say 28 = .ok (.ireturn, 1) := by decide +kernel
theorem dX5_say_29 : decode cX5_say 29 = .ok (.aload_n 0, 1) := by decide +kernel
theorem dX5_say_30 : decode cX5_say 30 = .ok (.getfield 28, 3) := by decide +kernel
theorem dX5_say_33 : decode cX5_say 33 = .ok (.aload_n 0, 1) := by decide +kernel
theorem dX5_say_34 : decode cX5_say 34 = .ok (.getfield 86, 3) := by decide +kernel
theorem dX5_say_37 : decode cX5_say 37 = .ok (.iload_n 1, 1) := by decide +kernel
theorem dX5_say_38 : decode cX5_say 38 = .ok (.iastore, 1) := by decide +kernel
theorem dX5_say_39 : decode cX5_say 39 = .ok (.aload_n 0, 1) := by decide +kernel
theorem dX5_say_40 : decode cX5_say 40 = .ok (.dup, 1) := by decide +kernel
theorem dX5_say_41 : decode cX5_say 41 = .ok (.getfield 86, 3) := by decide +kernel
theorem dX5_say_44 : decode cX5_say 44 = .ok (.iconst 1, 1) := by decide +kernel
theorem dX5_say_45 : decode cX5_say 45 = .ok (.iadd, 1) := by decide +kernel
theorem dX5_say_46 : decode cX5_say 46 = .ok (.putfield 86, 3) := by decide +kernel
theorem dX5_say_49 : decode cX5_say 49 = .ok (.aload_n 0, 1) := by decide +kernel
theorem dX5_say_50 : decode cX5_say 50 = .ok (.getfield 86, 3) := by decide +kernel
theorem dX5_say_53 : decode cX5_say 53 = .ok (.ireturn, 1) := by decide +kernel
theorem dX5_wipe_0 : decode cX5_wipe 0 = .ok (.aload_n 0, 1) := by decide +kernel
theorem dX5_wipe_1 : decode cX5_wipe 1 = .ok (.getfield 86, 3) := by decide +kernel
theorem dX5_wipe_4 : decode cX5_wipe 4 = .ok (.istore_n 1, 1) := by decide +kernel
theorem dX5_wipe_5 : decode cX5_wipe 5 = .ok (.aload_n 0, 1) := by decide +kernel
theorem dX5_wipe_6 : decode cX5_wipe 6 = .ok (.iconst 0, 1) := by decide +kernel
theorem dX5_wipe_7 : decode cX5_wipe 7 = .ok (.putfield 86, 3) := by decide +kernel
theorem dX5_wipe_10 : decode cX5_wipe 10 = .ok (.iload_n 1, 1) := by decide +kernel
theorem dX5_wipe_11 : decode cX5_wipe 11 = .ok (.ireturn, 1) := by decide +kernel
set_option maxRecDepth 20000 in
theorem ggX5_canStand_X5_in : GoodIn wsX5_canStand wsX5_in := goodIn_r _ [8] (by decide +kernel) (by decide +kernel)
set_option maxRecDepth 20000 in
theorem gX5_canStand_X5_in : GoodIn wsX5_canStand (va_wsS RX5 53 yX5_in wsX5_in) := goodIn_app (goodIn_of _ (by decide +kernel)) ggX5_canStand_X5_in
theorem dX5_canStand_0 : decode cX5_canStand 0 = .ok (.iload_n 0, 1) := by decide +kernel
theorem dX5_canStand_1 : decode cX5_canStand 1 = .ok (.i2l, 1) := by decide +kernel
theorem dX5_canStand_2 : decode cX5_canStand 2 = .ok (.ldc2_w 89, 3) := by decide +kernel
theorem dX5_canStand_5 : decode cX5_canStand 5 = .ok (.ldc2_w 91, 3) := by decide +kernel
theorem dX5_canStand_8 : decode cX5_canStand 8 = .ok (.invokestatic 53, 3) := by decide +kernel
theorem dX5_canStand_11 : decode cX5_canStand 11 = .ok (.istore_n 2, 1) := by decide +kernel
theorem dX5_canStand_12 : decode cX5_canStand 12 = .ok (.iload_n 1, 1) := by decide +kernel
theorem dX5_canStand_13 : decode cX5_canStand 13 = .ok (.ifCond .ne 37, 3) := by decide +kernel
theorem dX5_canStand_16 : decode cX5_canStand 16 = .ok (.iload_n 2, 1) := by decide +kernel
theorem dX5_canStand_17 : decode cX5_canStand 17 = .ok (.ifCond .ne 27, 3) := by decide +kernel
theorem dX5_canStand_20 : decode cX5_canStand 20 = .ok (.iload_n 0, 1) := by decide +kernel
theorem dX5_canStand_21 : decode cX5_canStand 21 = .ok (.bipush 33, 2) := by decide +kernel
theorem dX5_canStand_23 : decode cX5_canStand 23 = .ok (.if_icmp .eq 21, 3) := by decide +kernel
theorem dX5_canStand_26 : decode cX5_canStand 26 = .ok (.iload_n 0, 1) := by decide +kernel
theorem dX5_canStand_27 : decode cX5_canStand 27 = .ok (.bipush 45, 2) := by decide +kernel
theorem dX5_canStand_29 : decode cX5_canStand 29 = .ok (.if_icmp .eq 15, 3) := by decide +kernel
theorem dX5_canStand_32 : decode cX5_canStand 32 = .ok (.iload_n 0, 1) := by decide +kernel
theorem dX5_canStand_33 : decode cX5_canStand 33 = .ok (.bipush 46, 2) := by decide +kernel
theorem dX5_canStand_35 : decode cX5_canStand 35 = .ok (.if_icmp .eq 9, 3) := by decide +kernel
theorem dX5_canStand_38 : decode cX5_canStand 38 = .ok (.iload_n 0, 1) := by decide +kernel
theorem dX5_canStand_39 : decode cX5_canStand 39 = .ok (.bipush 126, 2) := by decide +kernel
theorem dX5_canStand_41 : decode cX5_canStand 41 = .ok (.if_icmp .ne 7, 3) := by decide +kernel
theorem dX5_canStand_44 : decode cX5_canStand 44 = .ok (.iconst 1, 1) := by decide +kernel
theorem dX5_canStand_45 : decode cX5_canStand 45 = .ok (.goto 4, 3) := by decide +kernel
theorem dX5_canStand_48 : decode cX5_canStand 48 = .ok (.iconst 0, 1) := by decide +kernel
theorem dX5_canStand_49 : decode cX5_canStand 49 = .ok (.ireturn, 1) := by decide +kernel
theorem dX5_canStand_50 : decode cX5_canStand 50 = .ok (.iload_n 1, 1) := by decide +kernel
theorem dX5_canStand_51 : decode cX5_canStand 51 = .ok (.bipush 126, 2) := by decide +kernel
theorem dX5_canStand_53 : decode cX5_canStand 53 = .ok (.if_icmp .ne 17, 3) := by decide +kernel
theorem dX5_canStand_56 : decode cX5_canStand 56 = .ok (.iload_n 0, 1) := by decide +kernel
theorem dX5_canStand_57 : decode cX5_canStand 57 = .ok (.i2l, 1) := by decide +kernel
theorem dX5_canStand_58 : decode cX5_canStand 58 = .ok (.ldc2_w 93, 3) := by decide +kernel
theorem dX5_canStand_61 : decode cX5_canStand 61 = .ok (.ldc2_w 95, 3) := by decide +kernel
theorem dX5_canStand_64 : decode cX5_canStand 64 = .ok (.invokestatic 53, 3) := by decide +kernel
theorem dX5_canStand_67 : decode cX5_canStand 67 = .ok (.goto 24, 3) := by decide +kernel
theorem dX5_canStand_70 : decode cX5_canStand 70 = .ok (.iload_n 2, 1) := by decide +kernel
theorem dX5_canStand_71 : decode cX5_canStand 71 = .ok (.ifCond .eq 19, 3) := by decide +kernel
theorem dX5_canStand_74 : decode cX5_canStand 74 = .ok (.iload_n 1, 1) := by decide +kernel
theorem dX5_canStand_75 : decode cX5_canStand 75 = .ok (.bipush 33, 2) := by decide +kernel
theorem dX5_canStand_77 : decode cX5_canStand 77 = .ok (.if_icmp .eq 9, 3) := by decide +kernel
theorem dX5_canStand_80 : decode cX5_canStand 80 = .ok (.iload_n 0, 1) := by decide +kernel
theorem dX5_canStand_81 : decode cX5_canStand 81 = .ok (.bipush 48, 2) := by decide +kernel
theorem dX5_canStand_83 : decode cX5_canStand 83 = .ok (.if_icmp .eq 7, 3) := by decide +kernel
theorem dX5_canStand_86 : decode cX5_canStand 86 = .ok (.iconst 1, 1) := by decide +kernel
theorem dX5_canStand_87 : decode cX5_canStand 87 = .ok (.goto 4, 3) := by decide +kernel
theorem dX5_canStand_90 : decode cX5_canStand 90 = .ok (.iconst 0, 1) := by decide +kernel
theorem dX5_canStand_91 : decode cX5_canStand 91 = .ok (.ireturn, 1) := by decide +kernel
theorem dX5_isOpening_0 : decode cX5_isOpening 0 = .ok (.iload_n 1, 1) := by decide +kernel
theorem dX5_isOpening_1 : decode cX5_isOpening 1 = .ok (.ifCond .ne 25, 3) := by decide +kernel
theorem dX5_isOpening_4 : decode cX5_isOpening 4 = .ok (.iload_n 0, 1) := by decide +kernel
theorem dX5_isOpening_5 : decode cX5_isOpening 5 = .ok (.bipush 33, 2) := by decide +kernel
theorem dX5_isOpening_7 : decode cX5_isOpening 7 = .ok (.if_icmp .eq 15, 3) := by decide +kernel
theorem dX5_isOpening_10 : decode cX5_isOpening 10 = .ok (.iload_n 0, 1) := by decide +kernel
theorem dX5_isOpening_11 : decode cX5_isOpening 11 = .ok (.bipush 45, 2) := by decide +kernel
theorem dX5_isOpening_13 : decode cX5_isOpening 13 = .ok (.if_icmp .eq 9, 3) := by decide +kernel
theorem dX5_isOpening_16 : decode cX5_isOpening 16 = .ok (.iload_n 0, 1) := by decide +kernel
theorem dX5_isOpening_17 : decode cX5_isOpening 17 = .ok (.bipush 126, 2) := by decide +kernel
theorem dX5_isOpening_19 : decode cX5_isOpening 19 = .ok (.if_icmp .ne 7, 3) := by decide +kernel
theorem dX5_isOpening_22 : decode cX5_isOpening 22 = .ok (.iconst 1, 1) := by decide +kernel
theorem dX5_isOpening_23 : decode cX5_isOpening 23 = .ok (.goto 4, 3) := by decide +kernel
theorem dX5_isOpening_26 : decode cX5_isOpening 26 = .ok (.iconst 0, 1) := by decide +kernel
theorem dX5_isOpening_27 : decode cX5_isOpening 27 = .ok (.ireturn, 1) := by decide +kernel
set_option maxRecDepth 20000 in
theorem ggX5_fault_X5_canStand : GoodIn wsX5_fault wsX5_canStand := goodIn_r _ [6, 7, 8, 9, 10, 11, 12, 5, 13] (by decide +kernel) (by decide +kernel)
set_option maxRecDepth 20000 in
theorem gX5_fault_X5_canStand : GoodIn wsX5_fault (va_wsS RX5 97 yX5_canStand wsX5_canStand) := goodIn_app (goodIn_of _ (by decide +kernel)) ggX5_fault_X5_canStand
set_option maxRecDepth 20000 in
theorem ggX5_fault_X5_isOpening : GoodIn wsX5_fault wsX5_isOpening := goodIn_r _ [16] (by decide +kernel) (by decide +kernel)
set_option maxRecDepth 20000 in
theorem gX5_fault_X5_isOpening : GoodIn wsX5_fault (va_wsS RX5 101 yX5_isOpening wsX5_isOpening) := goodIn_app (goodIn_of _ (by decide +kernel)) ggX5_fault_X5_isOpening
theorem dX5_fault_0 : decode cX5_fault 0 = .ok (.iconst 0, 1) := by decide +kernel
theorem dX5_fault_1 : decode cX5_fault 1 = .ok (.istore_n 1, 1) := by decide +kernel
theorem dX5_fault_2 : decode cX5_fault 2 = .ok (.iconst 0, 1) := by decide +kernel
theorem dX5_fault_3 : decode cX5_fault 3 = .ok (.istore_n 2, 1) := by decide +kernel
theorem dX5_fault_4 : decode cX5_fault 4 = .ok (.iload_n 2, 1) := by decide +kernel
theorem dX5_fault_5 : decode cX5_fault 5 = .ok (.aload_n 0, 1) := by decide +kernel
theorem dX5_fault_6 : decode cX5_fault 6 = .ok (.getfield 86, 3) := by decide +kernel
theorem dX5_fault_9 : decode cX5_fault 9 = .ok (.if_icmp .ge 48, 3) := by decide +kernel
theorem dX5_fault_12 : decode cX5_fault 12 = .ok (.aload_n 0, 1) := by decide +kernel
theorem dX5_fault_13 : decode cX5_fault 13 = .ok (.getfield 28, 3) := by decide +kernel
theorem dX5_fault_16 : decode cX5_fault 16 = .ok (.iload_n 2, 1) := by decide +kernel
theorem dX5_fault_17 : decode cX5_fault 17 = .ok (.iaload, 1) := by decide +kernel
theorem dX5_fault_18 : decode cX5_fault 18 = .ok (.iload_n 1, 1) := by decide +kernel
theorem dX5_fault_19 : decode cX5_fault 19 = .ok (.invokestatic 97, 3) := by decide +kernel
theorem dX5_fault_22 : decode cX5_fault 22 = .ok (.ifCond .ne 5, 3) := by decide +kernel
theorem dX5_fault_25 : decode cX5_fault 25 = .ok (.iload_n 2, 1) := by decide +kernel
theorem dX5_fault_26 : decode cX5_fault 26 = .ok (.ireturn, 1) := by decide +kernel
theorem dX5_fault_27 : decode cX5_fault 27 = .ok (.aload_n 0, 1) := by decide +kernel
theorem dX5_fault_28 : decode cX5_fault 28 = .ok (.getfield 28, 3) := by decide +kernel
theorem dX5_fault_31 : decode cX5_fault 31 = .ok (.iload_n 2, 1) := by decide +kernel
theorem dX5_fault_32 : decode cX5_fault 32 = .ok (.iaload, 1) := by decide +kernel
theorem dX5_fault_33 : decode cX5_fault 33 = .ok (.iload_n 1, 1) := by decide +kernel
theorem dX5_fault_34 : decode cX5_fault 34 = .ok (.invokestatic 101, 3) := by decide +kernel
theorem dX5_fault_37 : decode cX5_fault 37 = .ok (.ifCond .eq 12, 3) := by decide +kernel
theorem dX5_fault_40 : decode cX5_fault 40 = .ok (.aload_n 0, 1) := by decide +kernel
theorem dX5_fault_41 : decode cX5_fault 41 = .ok (.getfield 28, 3) := by decide +kernel
theorem dX5_fault_44 : decode cX5_fault 44 = .ok (.iload_n 2, 1) := by decide +kernel
theorem dX5_fault_45 : decode cX5_fault 45 = .ok (.iaload, 1) := by decide +kernel
theorem dX5_fault_46 : decode cX5_fault 46 = .ok (.goto 4, 3) := by decide +kernel
theorem dX5_fault_49 : decode cX5_fault 49 = .ok (.iconst 0, 1) := by decide +kernel
theorem dX5_fault_50 : decode cX5_fault 50 = .ok (.istore_n 1, 1) := by decide +kernel
theorem dX5_fault_51 : decode cX5_fault 51 = .ok (.iinc 2 1, 3) := by decide +kernel
theorem dX5_fault_54 : decode cX5_fault 54 = .ok (.goto (-50), 3) := by decide +kernel
theorem dX5_fault_57 : decode cX5_fault 57 = .ok (.iload_n 1, 1) := by decide +kernel
theorem dX5_fault_58 : decode cX5_fault 58 = .ok (.ifCond .ne 8, 3) := by decide +kernel
theorem dX5_fault_61 : decode cX5_fault 61 = .ok (.bipush (-6), 2) := by decide +kernel
theorem dX5_fault_63 : decode cX5_fault 63 = .ok (.goto 7, 3) := by decide +kernel
theorem dX5_fault_66 : decode cX5_fault 66 = .ok (.aload_n 0, 1) := by decide +kernel
theorem dX5_fault_67 : decode cX5_fault 67 = .ok (.getfield 86, 3) := by decide +kernel
theorem dX5_fault_70 : decode cX5_fault 70 = .ok (.ireturn, 1) := by decide +kernel
set_option maxRecDepth 20000 in
theorem ggX5_opensAt_X5_isThere : GoodIn wsX5_opensAt wsX5_isThere := goodIn_r _ [11, 12, 13, 14, 10, 15, 16, 17, 18, 19, 20, 21, 22, 23, 24, 25, 26, 27, 28, 29, 30, 31, 32, 33, 34, 35, 36, 37, 38, 39, 40, 41, 42, 43] (by decide +kernel) (by decide +kernel)
set_option maxRecDepth 20000 in
theorem gX5_opensAt_X5_isThere : GoodIn wsX5_opensAt (wsV RX5 76 RX5 yX5_isThere wsX5_isThere) := goodIn_app (goodIn_of _ (by decide +kernel)) ggX5_opensAt_X5_isThere
theorem dX5_opensAt_0 : decode cX5_opensAt 0 = .ok (.aload_n 0, 1) := by decide +kernel
theorem dX5_opensAt_1 : decode cX5_opensAt 1 = .ok (.iload_n 1, 1) := by decide +kernel
theorem dX5_opensAt_2 : decode cX5_opensAt 2 = .ok (.invokevirtual 76, 3) := by decide +kernel
theorem dX5_opensAt_5 : decode cX5_opensAt 5 = .ok (.ifCond .eq 15, 3) := by decide +kernel
theorem dX5_opensAt_8 : decode cX5_opensAt 8 = .ok (.aload_n 0, 1) := by decide +kernel
theorem dX5_opensAt_9 : decode cX5_opensAt 9 = .ok (.getfield 69, 3) := by decide +kernel
theorem dX5_opensAt_12 : decode cX5_opensAt 12 = .ok (.iload_n 1, 1) := by decide +kernel
theorem dX5_opensAt_13 : decode cX5_opensAt 13 = .ok (.ishr, 1) := by decide +kernel
theorem dX5_opensAt_14 : decode cX5_opensAt 14 = .ok (.iconst 1, 1) := by decide +kernel
theorem dX5_opensAt_15 : decode cX5_opensAt 15 = .ok (.iand, 1) := by decide +kernel
theorem dX5_opensAt_16 : decode cX5_opensAt 16 = .ok (.iconst 1, 1) := by decide +kernel
theorem dX5_opensAt_17 : decode cX5_opensAt 17 = .ok (.if_icmp .ne 7, 3) := by decide +kernel
theorem dX5_opensAt_20 : decode cX5_opensAt 20 = .ok (.sipush 1000, 3) := by decide +kernel
theorem dX5_opensAt_23 : decode cX5_opensAt 23 = .ok (.ireturn, 1) := by decide +kernel
theorem dX5_opensAt_24 : decode cX5_opensAt 24 = .ok (.aload_n 0, 1) := by decide +kernel
theorem dX5_opensAt_25 : decode cX5_opensAt 25 = .ok (.getfield 7, 3) := by decide +kernel
theorem dX5_opensAt_28 : decode cX5_opensAt 28 = .ok (.iload_n 1, 1) := by decide +kernel
theorem dX5_opensAt_29 : decode cX5_opensAt 29 = .ok (.iaload, 1) := by decide +kernel
theorem dX5_opensAt_30 : decode cX5_opensAt 30 = .ok (.iload_n 2, 1) := by decide +kernel
theorem dX5_opensAt_31 : decode cX5_opensAt 31 = .ok (.if_icmp .le 14, 3) := by decide +kernel
theorem dX5_opensAt_34 : decode cX5_opensAt 34 = .ok (.aload_n 0, 1) := by decide +kernel
theorem dX5_opensAt_35 : decode cX5_opensAt 35 = .ok (.getfield 7, 3) := by decide +kernel
theorem dX5_opensAt_38 : decode cX5_opensAt 38 = .ok (.iload_n 1, 1) := by decide +kernel
theorem dX5_opensAt_39 : decode cX5_opensAt 39 = .ok (.iaload, 1) := by decide +kernel
theorem dX5_opensAt_40 : decode cX5_opensAt 40 = .ok (.iload_n 2, 1) := by decide +kernel
theorem dX5_opensAt_41 : decode cX5_opensAt 41 = .ok (.isub, 1) := by decide +kernel
theorem dX5_opensAt_42 : decode cX5_opensAt 42 = .ok (.goto 11, 3) := by decide +kernel
theorem dX5_opensAt_45 : decode cX5_opensAt 45 = .ok (.iload_n 2, 1) := by decide +kernel
theorem dX5_opensAt_46 : decode cX5_opensAt 46 = .ok (.aload_n 0, 1) := by decide +kernel
theorem dX5_opensAt_47 : decode cX5_opensAt 47 = .ok (.getfield 7, 3) := by decide +kernel
theorem dX5_opensAt_50 : decode cX5_opensAt 50 = .ok (.iload_n 1, 1) := by decide +kernel
theorem dX5_opensAt_51 : decode cX5_opensAt 51 = .ok (.iaload, 1) := by decide +kernel
theorem dX5_opensAt_52 : decode cX5_opensAt 52 = .ok (.isub, 1) := by decide +kernel
theorem dX5_opensAt_53 : decode cX5_opensAt 53 = .ok (.istore_n 3, 1) := by decide +kernel
theorem dX5_opensAt_54 : decode cX5_opensAt 54 = .ok (.aload_n 0, 1) := by decide +kernel
theorem dX5_opensAt_55 : decode cX5_opensAt 55 = .ok (.getfield 79, 3) := by decide +kernel
theorem dX5_opensAt_58 : decode cX5_opensAt 58 = .ok (.aload_n 0, 1) := by decide +kernel
theorem dX5_opensAt_59 : decode cX5_opensAt 59 = .ok (.getfield 7, 3) := by decide +kernel
theorem dX5_opensAt_62 : decode cX5_opensAt 62 = .ok (.iload_n 1, 1) := by decide +kernel
theorem dX5_opensAt_63 : decode cX5_opensAt 63 = .ok (.iaload, 1) := by decide +kernel
theorem dX5_opensAt_64 : decode cX5_opensAt 64 = .ok (.ishr, 1) := by decide +kernel
theorem dX5_opensAt_65 : decode cX5_opensAt 65 = .ok (.iconst 1, 1) := by decide +kernel
theorem dX5_opensAt_66 : decode cX5_opensAt 66 = .ok (.iand, 1) := by decide +kernel
theorem dX5_opensAt_67 : decode cX5_opensAt 67 = .ok (.iconst 1, 1) := by decide +kernel
theorem dX5_opensAt_68 : decode cX5_opensAt 68 = .ok (.if_icmp .ne 10, 3) := by decide +kernel
theorem dX5_opensAt_71 : decode cX5_opensAt 71 = .ok (.aload_n 0, 1) := by decide +kernel
theorem dX5_opensAt_72 : decode cX5_opensAt 72 = .ok (.getfield 48, 3) := by decide +kernel
theorem dX5_opensAt_75 : decode cX5_opensAt 75 = .ok (.goto 4, 3) := by decide +kernel
theorem dX5_opensAt_78 : decode cX5_opensAt 78 = .ok (.iconst 0, 1) := by decide +kernel
theorem dX5_opensAt_79 : decode cX5_opensAt 79 = .ok (.istore 4, 2) := by decide +kernel
theorem dX5_opensAt_81 : decode cX5_opensAt 81 = .ok (.aload_n 0, 1) := by decide +kernel
theorem dX5_opensAt_82 : decode cX5_opensAt 82 = .ok (.getfield 44, 3) := by decide +kernel
theorem dX5_opensAt_85 : decode cX5_opensAt 85 = .ok (.iload_n 3, 1) := by decide +kernel
theorem dX5_opensAt_86 : decode cX5_opensAt 86 = .ok (.imul, 1) := by decide +kernel
theorem dX5_opensAt_87 : decode cX5_opensAt 87 = .ok (.aload_n 0, 1) := by decide +kernel
theorem dX5_opensAt_88 : decode cX5_opensAt 88 = .ok (.getfield 13, 3) := by decide +kernel
theorem dX5_opensAt_91 : decode cX5_opensAt 91 = .ok (.iload_n 1, 1) := by decide +kernel
theorem dX5_opensAt_92 : decode cX5_opensAt 92 = .ok (.iaload, 1) := by decide +kernel
theorem dX5_opensAt_93 : decode cX5_opensAt 93 = .ok (.iadd, 1) := by decide +kernel
theorem dX5_opensAt_94 : decode cX5_opensAt 94 = .ok (.iload 4, 2) := by decide +kernel
theorem dX5_opensAt_96 : decode cX5_opensAt 96 = .ok (.iadd, 1) := by decide +kernel
theorem dX5_opensAt_97 : decode cX5_opensAt 97 = .ok (.ireturn, 1) := by decide +kernel
set_option maxRecDepth 20000 in
theorem ggX5_firstAt_X5_opensAt : GoodIn wsX5_firstAt wsX5_opensAt := goodIn_r _ [5, 6, 7, 8, 9, 10, 11, 12, 13, 14, 4, 15, 16, 17, 18, 19, 20, 21, 22, 23, 24, 25, 26, 27, 28, 29, 30, 31, 32, 33, 34, 35, 36, 37, 38, 39, 40, 41, 42, 43, 44, 45, 46, 47] (by decide +kernel) (by decide +kernel)
set_option maxRecDepth 20000 in
theorem gX5_firstAt_X5_opensAt : GoodIn wsX5_firstAt (wsV RX5 104 RX5 yX5_opensAt wsX5_opensAt) := goodIn_app (goodIn_of _ (by decide +kernel)) ggX5_firstAt_X5_opensAt
theorem dX5_firstAt_0 : decode cX5_firstAt 0 = .ok (.sipush 1000, 3) := by decide +kernel
theorem dX5_firstAt_3 : decode cX5_firstAt 3 = .ok (.istore_n 2, 1) := by decide +kernel
theorem dX5_firstAt_4 : decode cX5_firstAt 4 = .ok (.iconst 0, 1) := by decide +kernel
theorem dX5_firstAt_5 : decode cX5_firstAt 5 = .ok (.istore_n 3, 1) := by decide +kernel
theorem dX5_firstAt_6 : decode cX5_firstAt 6 = .ok (.iload_n 3, 1) := by decide +kernel
theorem dX5_firstAt_7 : decode cX5_firstAt 7 = .ok (.bipush 6, 2) := by decide +kernel
theorem dX5_firstAt_9 : decode cX5_firstAt 9 = .ok (.if_icmp .ge 30, 3) := by decide +kernel
theorem dX5_firstAt_12 : decode cX5_firstAt 12 = .ok (.aload_n 0, 1) := by decide +kernel
theorem dX5_firstAt_13 : decode cX5_firstAt 13 = .ok (.iload_n 3, 1) := by decide +kernel
theorem dX5_firstAt_14 : decode cX5_firstAt 14 = .ok (.iload_n 1, 1) := by decide +kernel
theorem dX5_firstAt_15 : decode cX5_firstAt 15 = .ok (.invokevirtual 104, 3) := by decide +kernel
theorem dX5_firstAt_18 : decode cX5_firstAt 18 = .ok (.istore 4, 2) := by decide +kernel
theorem dX5_firstAt_20 : decode cX5_firstAt 20 = .ok (.iload 4, 2) := by decide +kernel
theorem dX5_firstAt_22 : decode cX5_firstAt 22 = .ok (.iload_n 2, 1) := by decide +kernel
theorem dX5_firstAt_23 : decode cX5_firstAt 23 = .ok (.if_icmp .ge 8, 3) := by decide +kernel
theorem dX5_firstAt_26 : decode cX5_firstAt 26 = .ok (.iload 4, 2) := by decide +kernel
theorem dX5_firstAt_28 : decode cX5_firstAt 28 = .ok (.goto 4, 3) := by decide +kernel
theorem dX5_firstAt_31 : decode cX5_firstAt 31 = .ok (.iload_n 2, 1) := by decide +kernel
theorem dX5_firstAt_32 : decode cX5_firstAt 32 = .ok (.istore_n 2, 1) := by decide +kernel
theorem dX5_firstAt_33 : decode cX5_firstAt 33 = .ok (.iinc 3 1, 3) := by decide +kernel
theorem dX5_firstAt_36 : decode cX5_firstAt 36 = .ok (.goto (-30), 3) := by decide +kernel
theorem dX5_firstAt_39 : decode cX5_firstAt 39 = .ok (.iload_n 2, 1) := by decide +kernel
theorem dX5_firstAt_40 : decode cX5_firstAt 40 = .ok (.ireturn, 1) := by decide +kernel
set_option maxRecDepth 20000 in
theorem ggX5_rulersBy_X5_firstAt : GoodIn wsX5_rulersBy wsX5_firstAt := goodIn_r _ [5, 6, 7, 8, 4, 9, 10, 11, 12, 13, 14, 15, 16, 17, 18, 19, 20, 21, 22, 23, 24, 25, 26, 27, 28, 29, 30, 31, 32, 33, 34, 35, 36, 37, 38, 39, 40, 41, 42, 43, 44, 45, 46, 47, 48, 49, 50, 51] (by decide +kernel) (by decide +kernel)
set_option maxRecDepth 20000 in
theorem gX5_rulersBy_X5_firstAt : GoodIn wsX5_rulersBy (wsV RX5 108 RX5 yX5_firstAt wsX5_firstAt) := goodIn_app (goodIn_of _ (by decide +kernel)) ggX5_rulersBy_X5_firstAt
set_option maxRecDepth 20000 in
theorem ggX5_rulersBy_X5_opensAt : GoodIn wsX5_rulersBy wsX5_opensAt := goodIn_r _ [9, 10, 11, 12, 13, 14, 15, 16, 17, 18, 4, 19, 20, 21, 22, 23, 24, 25, 26, 27, 28, 29, 30, 31, 32, 33, 34, 35, 36, 37, 38, 39, 40, 41, 42, 43, 44, 45, 46, 47, 48, 49, 50, 51] (by decide +kernel) (by decide +kernel)
set_option maxRecDepth 20000 in
theorem gX5_rulersBy_X5_opensAt : GoodIn wsX5_rulersBy (wsV RX5 104 RX5 yX5_opensAt wsX5_opensAt) := goodIn_app (goodIn_of _ (by decide +kernel)) ggX5_rulersBy_X5_opensAt
theorem dX5_rulersBy_0 : decode cX5_rulersBy 0 = .ok (.aload_n 0, 1) := by decide +kernel
theorem dX5_rulersBy_1 : decode cX5_rulersBy 1 = .ok (.iload_n 1, 1) := by decide +kernel
theorem dX5_rulersBy_2 : decode cX5_rulersBy 2 = .ok (.invokevirtual 108, 3) := by decide +kernel
theorem dX5_rulersBy_5 : decode cX5_rulersBy 5 = .ok (.istore_n 2, 1) := by decide +kernel
theorem dX5_rulersBy_6 : decode cX5_rulersBy 6 = .ok (.iconst 0, 1) := by decide +kernel
theorem dX5_rulersBy_7 : decode cX5_rulersBy 7 = .ok (.istore_n 3, 1) := by decide +kernel
theorem dX5_rulersBy_8 : decode cX5_rulersBy 8 = .ok (.iconst 0, 1) := by decide +kernel
theorem dX5_rulersBy_9 : decode cX5_rulersBy 9 = .ok (.istore 4, 2) := by decide +kernel
theorem dX5_rulersBy_11 : decode cX5_rulersBy 11 = .ok (.iload 4, 2) := by decide +kernel
theorem dX5_rulersBy_13 : decode cX5_rulersBy 13 = .ok (.bipush 6, 2) := by decide +kernel
theorem dX5_rulersBy_15 : decode cX5_rulersBy 15 = .ok (.if_icmp .ge 38, 3) := by decide +kernel
theorem dX5_rulersBy_18 : decode cX5_rulersBy 18 = .ok (.iload_n 2, 1) := by decide +kernel
theorem dX5_rulersBy_19 : decode cX5_rulersBy 19 = .ok (.sipush 1000, 3) := by decide +kernel
theorem dX5_rulersBy_22 : decode cX5_rulersBy 22 = .ok (.if_icmp .ge 31, 3) := by decide +kernel
theorem dX5_rulersBy_25 : decode cX5_rulersBy 25 = .ok (.iload_n 3, 1) := by decide +kernel
theorem dX5_rulersBy_26 : decode cX5_rulersBy 26 = .ok (.aload_n 0, 1) := by decide +kernel
theorem dX5_rulersBy_27 : decode cX5_rulersBy 27 = .ok (.iload 4, 2) := by decide +kernel
theorem dX5_rulersBy_29 : decode cX5_rulersBy 29 = .ok (.iload_n 1, 1) := by decide +kernel
theorem dX5_rulersBy_30 : decode cX5_rulersBy 30 = .ok (.invokevirtual 104, 3) := by decide +kernel
theorem dX5_rulersBy_33 : decode cX5_rulersBy 33 = .ok (.iload_n 2, 1) := by decide +kernel
theorem dX5_rulersBy_34 : decode cX5_rulersBy 34 = .ok (.if_icmp .ne 10, 3) := by decide +kernel
theorem dX5_rulersBy_37 : decode cX5_rulersBy 37 = .ok (.iconst 1, 1) := by decide +kernel
theorem dX5_rulersBy_38 : decode cX5_rulersBy 38 = .ok (.iload 4, 2) := by decide +kernel
theorem dX5_rulersBy_40 : decode cX5_rulersBy 40 = .ok (.ishl, 1) := by decide +kernel
theorem dX5_rulersBy_41 : decode cX5_rulersBy 41 = .ok (.goto 4, 3) := by decide +kernel
theorem dX5_rulersBy_44 : decode cX5_rulersBy 44 = .ok (.iconst 0, 1) := by decide +kernel
theorem dX5_rulersBy_45 : decode cX5_rulersBy 45 = .ok (.ior, 1) := by decide +kernel
theorem dX5_rulersBy_46 : decode cX5_rulersBy 46 = .ok (.istore_n 3, 1) := by decide +kernel
theorem dX5_rulersBy_47 : decode cX5_rulersBy 47 = .ok (.iinc 4 1, 3) := by decide +kernel
theorem dX5_rulersBy_50 : decode cX5_rulersBy 50 = .ok (.goto (-39), 3) := by decide +kernel
theorem dX5_rulersBy_53 : decode cX5_rulersBy 53 = .ok (.iload_n 3, 1) := by decide +kernel
theorem dX5_rulersBy_54 : decode cX5_rulersBy 54 = .ok (.ireturn, 1) := by decide +kernel
set_option maxRecDepth 20000 in
theorem ggX5_sprinkledBy_X5_opensAt : GoodIn wsX5_sprinkledBy wsX5_opensAt := goodIn_r _ [6, 7, 1, 8, 9, 10, 11, 12, 13, 14, 5, 15, 16, 17, 18, 19, 20, 21, 22, 23, 24, 25, 26, 27, 28, 29, 30, 31, 32, 33, 34, 35, 36, 37, 38, 39, 40, 41, 42, 43, 44, 45, 46, 47] (by decide +kernel) (by decide +kernel)
set_option maxRecDepth 20000 in
theorem gX5_sprinkledBy_X5_opensAt : GoodIn wsX5_sprinkledBy (wsV RX5 104 RX5 yX5_opensAt wsX5_opensAt) := goodIn_app (goodIn_of _ (by decide +kernel)) ggX5_sprinkledBy_X5_opensAt
theorem dX5_sprinkledBy_0 : decode cX5_sprinkledBy 0 = .ok (.sipush 1000, 3) := by decide +kernel
theorem dX5_sprinkledBy_3 : decode cX5_sprinkledBy 3 = .ok (.istore_n 2, 1) := by decide +kernel
theorem dX5_sprinkledBy_4 : decode cX5_sprinkledBy 4 = .ok (.iconst 0, 1) := by decide +kernel
theorem dX5_sprinkledBy_5 : decode cX5_sprinkledBy 5 = .ok (.istore_n 3, 1) := by decide +kernel
theorem dX5_sprinkledBy_6 : decode cX5_sprinkledBy 6 = .ok (.iload_n 3, 1) := by decide +kernel
theorem dX5_sprinkledBy_7 : decode cX5_sprinkledBy 7 = .ok (.bipush 6, 2) := by decide +kernel
theorem dX5_sprinkledBy_9 : decode cX5_sprinkledBy 9 = .ok (.if_icmp .ge 46, 3) := by decide +kernel
theorem dX5_sprinkledBy_12 : decode cX5_sprinkledBy 12 = .ok (.aload_n 0, 1) := by decide +kernel
theorem dX5_sprinkledBy_13 : decode cX5_sprinkledBy 13 = .ok (.getfield 7, 3) := by decide +kernel
theorem dX5_sprinkledBy_16 : decode cX5_sprinkledBy 16 = .ok (.iload_n 3, 1) := by decide +kernel
theorem dX5_sprinkledBy_17 : decode cX5_sprinkledBy 17 = .ok (.iaload, 1) := by decide +kernel
theorem dX5_sprinkledBy_18 : decode cX5_sprinkledBy 18 = .ok (.iload_n 1, 1) := by decide +kernel
theorem dX5_sprinkledBy_19 : decode cX5_sprinkledBy 19 = .ok (.if_icmp .ne 12, 3) := by decide +kernel
theorem dX5_sprinkledBy_22 : decode cX5_sprinkledBy 22 = .ok (.aload_n 0, 1) := by decide +kernel
theorem dX5_sprinkledBy_23 : decode cX5_sprinkledBy 23 = .ok (.iload_n 3, 1) := by decide +kernel
theorem dX5_sprinkledBy_24 : decode cX5_sprinkledBy 24 = .ok (.iload_n 1, 1) := by decide +kernel
theorem dX5_sprinkledBy_25 : decode cX5_sprinkledBy 25 = .ok (.invokevirtual 104, 3) := by decide +kernel
theorem dX5_sprinkledBy_28 : decode cX5_sprinkledBy 28 = .ok (.goto 6, 3) := by decide +kernel
theorem dX5_sprinkledBy_31 : decode cX5_sprinkledBy 31 = .ok (.sipush 1000, 3) := by decide +kernel
theorem dX5_sprinkledBy_34 : decode cX5_sprinkledBy 34 = .ok (.istore 4, 2) := by decide +kernel
theorem dX5_sprinkledBy_36 : decode cX5_sprinkledBy 36 = .ok (.iload 4, 2) := by decide +kernel
theorem dX5_sprinkledBy_38 : decode cX5_sprinkledBy 38 = .ok (.iload_n 2, 1) := by decide +kernel
theorem dX5_sprinkledBy_39 : decode cX5_sprinkledBy 39 = .ok (.if_icmp .ge 8, 3) := by decide +kernel
theorem dX5_sprinkledBy_42 : decode cX5_sprinkledBy 42 = .ok (.iload 4, 2) := by decide +kernel
theorem dX5_sprinkledBy_44 : decode cX5_sprinkledBy 44 = .ok (.goto 4, 3) := by decide +kernel
theorem dX5_sprinkledBy_47 : decode cX5_sprinkledBy 47 = .ok (.iload_n 2, 1) := by decide +kernel
theorem dX5_sprinkledBy_48 : decode cX5_sprinkledBy 48 = .ok (.istore_n 2, 1) := by decide +kernel
theorem dX5_sprinkledBy_49 : decode cX5_sprinkledBy 49 = .ok (.iinc 3 1, 3) := by decide +kernel
theorem dX5_sprinkledBy_52 : decode cX5_sprinkledBy 52 = .ok (.goto (-46), 3) := by decide +kernel
theorem dX5_sprinkledBy_55 : decode cX5_sprinkledBy 55 = .ok (.iconst 0, 1) := by decide +kernel
theorem dX5_sprinkledBy_56 : decode cX5_sprinkledBy 56 = .ok (.istore_n 3, 1) := by decide +kernel
theorem dX5_sprinkledBy_57 : decode cX5_sprinkledBy 57 = .ok (.iconst 0, 1) := by decide +kernel
theorem dX5_sprinkledBy_58 : decode cX5_sprinkledBy 58 = .ok (.istore 4, 2) := by decide +kernel
theorem dX5_sprinkledBy_60 : decode cX5_sprinkledBy 60 = .ok (.iload 4, 2) := by decide +kernel
theorem dX5_sprinkledBy_62 : decode cX5_sprinkledBy 62 = .ok (.bipush 6, 2) := by decide +kernel
theorem dX5_sprinkledBy_64 : decode cX5_sprinkledBy 64 = .ok (.if_icmp .ge 49, 3) := by decide +kernel
theorem dX5_sprinkledBy_67 : decode cX5_sprinkledBy 67 = .ok (.iload_n 2, 1) := by decide +kernel
theorem dX5_sprinkledBy_68 : decode cX5_sprinkledBy 68 = .ok (.sipush 1000, 3) := by decide +kernel
theorem dX5_sprinkledBy_71 : decode cX5_sprinkledBy 71 = .ok (.if_icmp .ge 42, 3) := by decide +kernel
theorem dX5_sprinkledBy_74 : decode cX5_sprinkledBy 74 = .ok (.iload_n 3, 1) := by decide +kernel
theorem dX5_sprinkledBy_75 : decode cX5_sprinkledBy 75 = .ok (.aload_n 0, 1) := by decide +kernel
theorem dX5_sprinkledBy_76 : decode cX5_sprinkledBy 76 = .ok (.getfield 7, 3) := by decide +kernel
theorem dX5_sprinkledBy_79 : decode cX5_sprinkledBy 79 = .ok (.iload 4, 2) := by decide +kernel
theorem dX5_sprinkledBy_81 : decode cX5_sprinkledBy 81 = .ok (.iaload, 1) := by decide +kernel
theorem dX5_sprinkledBy_82 : decode cX5_sprinkledBy 82 = .ok (.iload_n 1, 1) := by decide +kernel
end
section
theorem dX5_sprinkledBy_83 : decode cX5_sprinkledBy 83 = .ok (.if_icmp .ne 21, 3) := by decide +kernel
theorem dX5_sprinkledBy_86 : decode cX5_sprinkledBy 86 = .ok (.aload_n 0, 1) := by decide +kernel
theorem dX5_sprinkledBy_87 : decode cX5_sprinkledBy 87 = .ok (.iload 4, 2) := by decide +kernel
theorem dX5_sprinkledBy_89 : decode cX5_sprinkledBy 89 = .ok (.iload_n 1, 1) := by decide +kernel
theorem dX5_sprinkledBy_90 : decode cX5_sprinkledBy 90 = .ok (.invokevirtual 104, 3) := by decide +kernel
theorem dX5_sprinkledBy_93 : decode cX5_sprinkledBy 93 = .ok (.iload_n 2, 1) := by decide +kernel
theorem dX5_sprinkledBy_94 : decode cX5_sprinkledBy 94 = .ok (.if_icmp .ne 10, 3) := by decide +kernel
theorem dX5_sprinkledBy_97 : decode cX5_sprinkledBy 97 = .ok (.iconst 1, 1) := by decide +kernel
theorem dX5_sprinkledBy_98 : decode cX5_sprinkledBy 98 = .ok (.iload 4, 2) := by decide +kernel
theorem dX5_sprinkledBy_100 : decode cX5_sprinkledBy 100 = .ok (.ishl, 1) := by decide +kernel
theorem dX5_sprinkledBy_101 : decode cX5_sprinkledBy 101 = .ok (.goto 4, 3) := by decide +kernel
theorem dX5_sprinkledBy_104 : decode cX5_sprinkledBy 104 = .ok (.iconst 0, 1) := by decide +kernel
theorem dX5_sprinkledBy_105 : decode cX5_sprinkledBy 105 = .ok (.ior, 1) := by decide +kernel
theorem dX5_sprinkledBy_106 : decode cX5_sprinkledBy 106 = .ok (.istore_n 3, 1) := by decide +kernel
theorem dX5_sprinkledBy_107 : decode cX5_sprinkledBy 107 = .ok (.iinc 4 1, 3) := by decide +kernel
theorem dX5_sprinkledBy_110 : decode cX5_sprinkledBy 110 = .ok (.goto (-50), 3) := by decide +kernel
theorem dX5_sprinkledBy_113 : decode cX5_sprinkledBy 113 = .ok (.iload_n 3, 1) := by decide +kernel
theorem dX5_sprinkledBy_114 : decode cX5_sprinkledBy 114 = .ok (.ireturn, 1) := by decide +kernel
set_option maxRecDepth 20000 in
theorem ggX5_rules_X5_isPlace : GoodIn wsX5_rules wsX5_isPlace := goodIn_r _ [4, 5, 6, 7, 3, 8] (by decide +kernel) (by decide +kernel)
set_option maxRecDepth 20000 in
theorem gX5_rules_X5_isPlace : GoodIn wsX5_rules (va_wsS RX5 66 yX5_isPlace wsX5_isPlace) := goodIn_app (goodIn_of _ (by decide +kernel)) ggX5_rules_X5_isPlace
set_option maxRecDepth 20000 in
theorem ggX5_rules_X5_in : GoodIn wsX5_rules wsX5_in := goodIn_r _ [8] (by decide +kernel) (by decide +kernel)
set_option maxRecDepth 20000 in
theorem gX5_rules_X5_in : GoodIn wsX5_rules (va_wsS RX5 53 yX5_in wsX5_in) := goodIn_app (goodIn_of _ (by decide +kernel)) ggX5_rules_X5_in
set_option maxRecDepth 20000 in
theorem ggX5_rules_X5_firstAt : GoodIn wsX5_rules wsX5_firstAt := goodIn_r _ [12, 13, 14, 15, 3, 16, 17, 18, 19, 20, 21, 22, 23, 24, 25, 26, 27, 28, 29, 30, 31, 6, 7, 8, 36, 37, 38, 39, 40, 41, 42, 43, 44, 45, 46, 47, 48, 49, 50, 51, 52, 53, 54, 55, 56, 57, 58, 59] (by decide +kernel) (by decide +kernel)
set_option maxRecDepth 20000 in
theorem gX5_rules_X5_firstAt : GoodIn wsX5_rules (wsV RX5 108 RX5 yX5_firstAt wsX5_firstAt) := goodIn_app (goodIn_of _ (by decide +kernel)) ggX5_rules_X5_firstAt
set_option maxRecDepth 20000 in
theorem ggX5_rules_X5_rulersBy : GoodIn wsX5_rules wsX5_rulersBy := goodIn_r _ [35, 9, 10, 11, 3, 12, 13, 14, 15, 16, 17, 18, 19, 20, 21, 22, 23, 24, 25, 26, 27, 28, 29, 30, 31, 6, 7, 8, 36, 37, 38, 39, 40, 41, 42, 43, 44, 45, 46, 47, 48, 49, 50, 51, 52, 53, 54, 55, 56, 57, 58, 59] (by decide +kernel) (by decide +kernel)
set_option maxRecDepth 20000 in
theorem gX5_rules_X5_rulersBy : GoodIn wsX5_rules (wsV RX5 111 RX5 yX5_rulersBy wsX5_rulersBy) := goodIn_app (goodIn_of _ (by decide +kernel)) ggX5_rules_X5_rulersBy
theorem dX5_rules_0 : decode cX5_rules 0 = .ok (.iload_n 1, 1) := by decide +kernel
theorem dX5_rules_1 : decode cX5_rules 1 = .ok (.invokestatic 66, 3) := by decide +kernel
theorem dX5_rules_4 : decode cX5_rules 4 = .ok (.ifCond .ne 5, 3) := by decide +kernel
theorem dX5_rules_7 : decode cX5_rules 7 = .ok (.iconst (-1), 1) := by decide +kernel
theorem dX5_rules_8 : decode cX5_rules 8 = .ok (.ireturn, 1) := by decide +kernel
theorem dX5_rules_9 : decode cX5_rules 9 = .ok (.iload_n 2, 1) := by decide +kernel
theorem dX5_rules_10 : decode cX5_rules 10 = .ok (.i2l, 1) := by decide +kernel
theorem dX5_rules_11 : decode cX5_rules 11 = .ok (.lconst 0, 1) := by decide +kernel
theorem dX5_rules_12 : decode cX5_rules 12 = .ok (.lconst 1, 1) := by decide +kernel
theorem dX5_rules_13 : decode cX5_rules 13 = .ok (.invokestatic 53, 3) := by decide +kernel
theorem dX5_rules_16 : decode cX5_rules 16 = .ok (.ifCond .ne 6, 3) := by decide +kernel
theorem dX5_rules_19 : decode cX5_rules 19 = .ok (.bipush (-2), 2) := by decide +kernel
theorem dX5_rules_21 : decode cX5_rules 21 = .ok (.ireturn, 1) := by decide +kernel
theorem dX5_rules_22 : decode cX5_rules 22 = .ok (.aload_n 0, 1) := by decide +kernel
theorem dX5_rules_23 : decode cX5_rules 23 = .ok (.iload_n 1, 1) := by decide +kernel
theorem dX5_rules_24 : decode cX5_rules 24 = .ok (.invokevirtual 108, 3) := by decide +kernel
theorem dX5_rules_27 : decode cX5_rules 27 = .ok (.istore_n 3, 1) := by decide +kernel
theorem dX5_rules_28 : decode cX5_rules 28 = .ok (.iload_n 3, 1) := by decide +kernel
theorem dX5_rules_29 : decode cX5_rules 29 = .ok (.sipush 1000, 3) := by decide +kernel
theorem dX5_rules_32 : decode cX5_rules 32 = .ok (.if_icmp .ne 8, 3) := by decide +kernel
theorem dX5_rules_35 : decode cX5_rules 35 = .ok (.bipush (-6), 2) := by decide +kernel
theorem dX5_rules_37 : decode cX5_rules 37 = .ok (.goto 16, 3) := by decide +kernel
theorem dX5_rules_40 : decode cX5_rules 40 = .ok (.iload_n 2, 1) := by decide +kernel
theorem dX5_rules_41 : decode cX5_rules 41 = .ok (.ifCond .ne 11, 3) := by decide +kernel
theorem dX5_rules_44 : decode cX5_rules 44 = .ok (.aload_n 0, 1) := by decide +kernel
theorem dX5_rules_45 : decode cX5_rules 45 = .ok (.iload_n 1, 1) := by decide +kernel
theorem dX5_rules_46 : decode cX5_rules 46 = .ok (.invokevirtual 111, 3) := by decide +kernel
theorem dX5_rules_49 : decode cX5_rules 49 = .ok (.goto 4, 3) := by decide +kernel
theorem dX5_rules_52 : decode cX5_rules 52 = .ok (.iload_n 3, 1) := by decide +kernel
theorem dX5_rules_53 : decode cX5_rules 53 = .ok (.ireturn, 1) := by decide +kernel
set_option maxRecDepth 20000 in
theorem ggX5_opens_X5_isThere : GoodIn wsX5_opens wsX5_isThere := goodIn_r _ [5, 6, 7, 8, 4, 9, 10, 11, 12, 13, 28, 29, 30, 31, 32, 33, 34, 35, 36, 37, 38, 39, 40, 41, 42, 43, 44, 45, 46, 47, 48, 49, 50, 51] (by decide +kernel) (by decide +kernel)
set_option maxRecDepth 20000 in
theorem gX5_opens_X5_isThere : GoodIn wsX5_opens (wsV RX5 76 RX5 yX5_isThere wsX5_isThere) := goodIn_app (goodIn_of _ (by decide +kernel)) ggX5_opens_X5_isThere
set_option maxRecDepth 20000 in
theorem ggX5_opens_X5_isPlace : GoodIn wsX5_opens wsX5_isPlace := goodIn_r _ [16, 17, 11, 12, 4, 13] (by decide +kernel) (by decide +kernel)
set_option maxRecDepth 20000 in
theorem gX5_opens_X5_isPlace : GoodIn wsX5_opens (va_wsS RX5 66 yX5_isPlace wsX5_isPlace) := goodIn_app (goodIn_of _ (by decide +kernel)) ggX5_opens_X5_isPlace
set_option maxRecDepth 20000 in
theorem ggX5_opens_X5_opensAt : GoodIn wsX5_opens wsX5_opensAt := goodIn_r _ [21, 22, 23, 24, 25, 26, 27, 1, 2, 3, 4, 5, 6, 7, 8, 9, 10, 11, 12, 13, 28, 29, 30, 31, 32, 33, 34, 35, 36, 37, 38, 39, 40, 41, 42, 43, 44, 45, 46, 47, 48, 49, 50, 51] (by decide +kernel) (by decide +kernel)
set_option maxRecDepth 20000 in
theorem gX5_opens_X5_opensAt : GoodIn wsX5_opens (wsV RX5 104 RX5 yX5_opensAt wsX5_opensAt) := goodIn_app (goodIn_of _ (by decide +kernel)) ggX5_opens_X5_opensAt
theorem dX5_opens_0 : decode cX5_opens 0 = .ok (.aload_n 0, 1) := by decide +kernel
theorem dX5_opens_1 : decode cX5_opens 1 = .ok (.iload_n 1, 1) := by decide +kernel
theorem dX5_opens_2 : decode cX5_opens 2 = .ok (.invokevirtual 76, 3) := by decide +kernel
theorem dX5_opens_5 : decode cX5_opens 5 = .ok (.ifCond .eq 10, 3) := by decide +kernel
theorem dX5_opens_8 : decode cX5_opens 8 = .ok (.iload_n 2, 1) := by decide +kernel
theorem dX5_opens_9 : decode cX5_opens 9 = .ok (.invokestatic 66, 3) := by decide +kernel
theorem dX5_opens_12 : decode cX5_opens 12 = .ok (.ifCond .ne 5, 3) := by decide +kernel
theorem dX5_opens_15 : decode cX5_opens 15 = .ok (.iconst (-1), 1) := by decide +kernel
theorem dX5_opens_16 : decode cX5_opens 16 = .ok (.ireturn, 1) := by decide +kernel
theorem dX5_opens_17 : decode cX5_opens 17 = .ok (.aload_n 0, 1) := by decide +kernel
theorem dX5_opens_18 : decode cX5_opens 18 = .ok (.iload_n 1, 1) := by decide +kernel
theorem dX5_opens_19 : decode cX5_opens 19 = .ok (.iload_n 2, 1) := by decide +kernel
theorem dX5_opens_20 : decode cX5_opens 20 = .ok (.invokevirtual 104, 3) := by decide +kernel
theorem dX5_opens_23 : decode cX5_opens 23 = .ok (.istore_n 3, 1) := by decide +kernel
theorem dX5_opens_24 : decode cX5_opens 24 = .ok (.iload_n 3, 1) := by decide +kernel
theorem dX5_opens_25 : decode cX5_opens 25 = .ok (.sipush 1000, 3) := by decide +kernel
theorem dX5_opens_28 : decode cX5_opens 28 = .ok (.if_icmp .ne 8, 3) := by decide +kernel
theorem dX5_opens_31 : decode cX5_opens 31 = .ok (.bipush (-6), 2) := by decide +kernel
theorem dX5_opens_33 : decode cX5_opens 33 = .ok (.goto 4, 3) := by decide +kernel
theorem dX5_opens_36 : decode cX5_opens 36 = .ok (.iload_n 3, 1) := by decide +kernel
theorem dX5_opens_37 : decode cX5_opens 37 = .ok (.ireturn, 1) := by decide +kernel
set_option maxRecDepth 20000 in
theorem ggX5_never_X5_rulersBy : GoodIn wsX5_never wsX5_rulersBy := goodIn_r _ [6, 7, 8, 9, 5, 10, 11, 12, 13, 14, 15, 16, 17, 18, 19, 20, 21, 22, 23, 24, 1, 25, 26, 27, 28, 29, 30, 31, 32, 33, 34, 35, 36, 37, 38, 39, 40, 41, 42, 43, 44, 45, 46, 47, 48, 49, 50, 51, 52, 53, 54, 55] (by decide +kernel) (by decide +kernel)
set_option maxRecDepth 20000 in
theorem gX5_never_X5_rulersBy : GoodIn wsX5_never (wsV RX5 111 RX5 yX5_rulersBy wsX5_rulersBy) := goodIn_app (goodIn_of _ (by decide +kernel)) ggX5_never_X5_rulersBy
theorem dX5_never_0 : decode cX5_never 0 = .ok (.iconst 0, 1) := by decide +kernel
theorem dX5_never_1 : decode cX5_never 1 = .ok (.istore_n 1, 1) := by decide +kernel
theorem dX5_never_2 : decode cX5_never 2 = .ok (.iconst 0, 1) := by decide +kernel
theorem dX5_never_3 : decode cX5_never 3 = .ok (.istore_n 2, 1) := by decide +kernel
theorem dX5_never_4 : decode cX5_never 4 = .ok (.iload_n 2, 1) := by decide +kernel
theorem dX5_never_5 : decode cX5_never 5 = .ok (.bipush 10, 2) := by decide +kernel
theorem dX5_never_7 : decode cX5_never 7 = .ok (.if_icmp .ge 17, 3) := by decide +kernel
theorem dX5_never_10 : decode cX5_never 10 = .ok (.iload_n 1, 1) := by decide +kernel
theorem dX5_never_11 : decode cX5_never 11 = .ok (.aload_n 0, 1) := by decide +kernel
theorem dX5_never_12 : decode cX5_never 12 = .ok (.iload_n 2, 1) := by decide +kernel
theorem dX5_never_13 : decode cX5_never 13 = .ok (.invokevirtual 111, 3) := by decide +kernel
theorem dX5_never_16 : decode cX5_never 16 = .ok (.ior, 1) := by decide +kernel
theorem dX5_never_17 : decode cX5_never 17 = .ok (.istore_n 1, 1) := by decide +kernel
theorem dX5_never_18 : decode cX5_never 18 = .ok (.iinc 2 1, 3) := by decide +kernel
theorem dX5_never_21 : decode cX5_never 21 = .ok (.goto (-17), 3) := by decide +kernel
theorem dX5_never_24 : decode cX5_never 24 = .ok (.aload_n 0, 1) := by decide +kernel
theorem dX5_never_25 : decode cX5_never 25 = .ok (.getfield 63, 3) := by decide +kernel
theorem dX5_never_28 : decode cX5_never 28 = .ok (.iload_n 1, 1) := by decide +kernel
theorem dX5_never_29 : decode cX5_never 29 = .ok (.iconst (-1), 1) := by decide +kernel
theorem dX5_never_30 : decode cX5_never 30 = .ok (.ixor, 1) := by decide +kernel
theorem dX5_never_31 : decode cX5_never 31 = .ok (.iand, 1) := by decide +kernel
theorem dX5_never_32 : decode cX5_never 32 = .ok (.ireturn, 1) := by decide +kernel
theorem dX5_rule_0 : decode cX5_rule 0 = .ok (.aload_n 0, 1) := by decide +kernel
theorem dX5_rule_1 : decode cX5_rule 1 = .ok (.dup, 1) := by decide +kernel
theorem dX5_rule_2 : decode cX5_rule 2 = .ok (.getfield 114, 3) := by decide +kernel
theorem dX5_rule_5 : decode cX5_rule 5 = .ok (.iload_n 1, 1) := by decide +kernel
theorem dX5_rule_6 : decode cX5_rule 6 = .ok (.ifCond .eq 15, 3) := by decide +kernel
theorem dX5_rule_9 : decode cX5_rule 9 = .ok (.iload_n 1, 1) := by decide +kernel
theorem dX5_rule_10 : decode cX5_rule 10 = .ok (.aload_n 0, 1) := by decide +kernel
theorem dX5_rule_11 : decode cX5_rule 11 = .ok (.getfield 117, 3) := by decide +kernel
theorem dX5_rule_14 : decode cX5_rule 14 = .ok (.if_icmp .eq 7, 3) := by decide +kernel
theorem dX5_rule_17 : decode cX5_rule 17 = .ok (.iconst 1, 1) := by decide +kernel
theorem dX5_rule_18 : decode cX5_rule 18 = .ok (.goto 4, 3) := by decide +kernel
theorem dX5_rule_21 : decode cX5_rule 21 = .ok (.iconst 0, 1) := by decide +kernel
theorem dX5_rule_22 : decode cX5_rule 22 = .ok (.iadd, 1) := by decide +kernel
theorem dX5_rule_23 : decode cX5_rule 23 = .ok (.putfield 114, 3) := by decide +kernel
theorem dX5_rule_26 : decode cX5_rule 26 = .ok (.aload_n 0, 1) := by decide +kernel
theorem dX5_rule_27 : decode cX5_rule 27 = .ok (.iload_n 1, 1) := by decide +kernel
theorem dX5_rule_28 : decode cX5_rule 28 = .ok (.putfield 117, 3) := by decide +kernel
theorem dX5_rule_31 : decode cX5_rule 31 = .ok (.return_, 1) := by decide +kernel
theorem dX5_goYears_0 : decode cX5_goYears 0 = .ok (.iconst 0, 1) := by decide +kernel
theorem dX5_goYears_1 : decode cX5_goYears 1 = .ok (.istore_n 2, 1) := by decide +kernel
theorem dX5_goYears_2 : decode cX5_goYears 2 = .ok (.iconst 0, 1) := by decide +kernel
theorem dX5_goYears_3 : decode cX5_goYears 3 = .ok (.istore_n 3, 1) := by decide +kernel
theorem dX5_goYears_4 : decode cX5_goYears 4 = .ok (.iload_n 3, 1) := by decide +kernel
theorem dX5_goYears_5 : decode cX5_goYears 5 = .ok (.bipush 6, 2) := by decide +kernel
theorem dX5_goYears_7 : decode cX5_goYears 7 = .ok (.if_icmp .ge 67, 3) := by decide +kernel
theorem dX5_goYears_10 : decode cX5_goYears 10 = .ok (.aload_n 0, 1) := by decide +kernel
theorem dX5_goYears_11 : decode cX5_goYears 11 = .ok (.getfield 117, 3) := by decide +kernel
theorem dX5_goYears_14 : decode cX5_goYears 14 = .ok (.iload_n 3, 1) := by decide +kernel
theorem dX5_goYears_15 : decode cX5_goYears 15 = .ok (.ishr, 1) := by decide +kernel
theorem dX5_goYears_16 : decode cX5_goYears 16 = .ok (.iconst 1, 1) := by decide +kernel
theorem dX5_goYears_17 : decode cX5_goYears 17 = .ok (.iand, 1) := by decide +kernel
theorem dX5_goYears_18 : decode cX5_goYears 18 = .ok (.iconst 1, 1) := by decide +kernel
theorem dX5_goYears_19 : decode cX5_goYears 19 = .ok (.if_icmp .ne 7, 3) := by decide +kernel
theorem dX5_goYears_22 : decode cX5_goYears 22 = .ok (.iconst 1, 1) := by decide +kernel
theorem dX5_goYears_23 : decode cX5_goYears 23 = .ok (.goto 4, 3) := by decide +kernel
theorem dX5_goYears_26 : decode cX5_goYears 26 = .ok (.iconst 0, 1) := by decide +kernel
theorem dX5_goYears_27 : decode cX5_goYears 27 = .ok (.istore 4, 2) := by decide +kernel
theorem dX5_goYears_29 : decode cX5_goYears 29 = .ok (.aload_n 0, 1) := by decide +kernel
theorem dX5_goYears_30 : decode cX5_goYears 30 = .ok (.getfield 31, 3) := by decide +kernel
theorem dX5_goYears_33 : decode cX5_goYears 33 = .ok (.iload_n 3, 1) := by decide +kernel
theorem dX5_goYears_34 : decode cX5_goYears 34 = .ok (.dup2, 1) := by decide +kernel
theorem dX5_goYears_35 : decode cX5_goYears 35 = .ok (.iaload, 1) := by decide +kernel
theorem dX5_goYears_36 : decode cX5_goYears 36 = .ok (.iload 4, 2) := by decide +kernel
theorem dX5_goYears_38 : decode cX5_goYears 38 = .ok (.ifCond .eq 7, 3) := by decide +kernel
theorem dX5_goYears_41 : decode cX5_goYears 41 = .ok (.iload_n 1, 1) := by decide +kernel
theorem dX5_goYears_42 : decode cX5_goYears 42 = .ok (.goto 4, 3) := by decide +kernel
theorem dX5_goYears_45 : decode cX5_goYears 45 = .ok (.iconst 0, 1) := by decide +kernel
theorem dX5_goYears_46 : decode cX5_goYears 46 = .ok (.iadd, 1) := by decide +kernel
theorem dX5_goYears_47 : decode cX5_goYears 47 = .ok (.iastore, 1) := by decide +kernel
theorem dX5_goYears_48 : decode cX5_goYears 48 = .ok (.iload_n 2, 1) := by decide +kernel
theorem dX5_goYears_49 : decode cX5_goYears 49 = .ok (.iload 4, 2) := by decide +kernel
theorem dX5_goYears_51 : decode cX5_goYears 51 = .ok (.ifCond .eq 14, 3) := by decide +kernel
theorem dX5_goYears_54 : decode cX5_goYears 54 = .ok (.iconst 1, 1) := by decide +kernel
theorem dX5_goYears_55 : decode cX5_goYears 55 = .ok (.aload_n 0, 1) := by decide +kernel
theorem dX5_goYears_56 : decode cX5_goYears 56 = .ok (.getfield 16, 3) := by decide +kernel
theorem dX5_goYears_59 : decode cX5_goYears 59 = .ok (.iload_n 3, 1) := by decide +kernel
theorem dX5_goYears_60 : decode cX5_goYears 60 = .ok (.iaload, 1) := by decide +kernel
theorem dX5_goYears_61 : decode cX5_goYears 61 = .ok (.ishl, 1) := by decide +kernel
theorem dX5_goYears_62 : decode cX5_goYears 62 = .ok (.goto 4, 3) := by decide +kernel
theorem dX5_goYears_65 : decode cX5_goYears 65 = .ok (.iconst 0, 1) := by decide +kernel
theorem dX5_goYears_66 : decode cX5_goYears 66 = .ok (.ior, 1) := by decide +kernel
theorem dX5_goYears_67 : decode cX5_goYears 67 = .ok (.istore_n 2, 1) := by decide +kernel
theorem dX5_goYears_68 : decode cX5_goYears 68 = .ok (.iinc 3 1, 3) := by decide +kernel
theorem dX5_goYears_71 : decode cX5_goYears 71 = .ok (.goto (-67), 3) := by decide +kernel
theorem dX5_goYears_74 : decode cX5_goYears 74 = .ok (.aload_n 0, 1) := by decide +kernel
theorem dX5_goYears_75 : decode cX5_goYears 75 = .ok (.getfield 31, 3) := by decide +kernel
theorem dX5_goYears_78 : decode cX5_goYears 78 = .ok (.bipush 6, 2) := by decide +kernel
theorem dX5_goYears_80 : decode cX5_goYears 80 = .ok (.dup2, 1) := by decide +kernel
theorem dX5_goYears_81 : decode cX5_goYears 81 = .ok (.iaload, 1) := by decide +kernel
theorem dX5_goYears_82 : decode cX5_goYears 82 = .ok (.iload_n 2, 1) := by decide +kernel
theorem dX5_goYears_83 : decode cX5_goYears 83 = .ok (.iconst 1, 1) := by decide +kernel
theorem dX5_goYears_84 : decode cX5_goYears 84 = .ok (.iand, 1) := by decide +kernel
theorem dX5_goYears_85 : decode cX5_goYears 85 = .ok (.iconst 1, 1) := by decide +kernel
theorem dX5_goYears_86 : decode cX5_goYears 86 = .ok (.if_icmp .ne 7, 3) := by decide +kernel
theorem dX5_goYears_89 : decode cX5_goYears 89 = .ok (.iload_n 1, 1) := by decide +kernel
theorem dX5_goYears_90 : decode cX5_goYears 90 = .ok (.goto 4, 3) := by decide +kernel
theorem dX5_goYears_93 : decode cX5_goYears 93 = .ok (.iconst 0, 1) := by decide +kernel
theorem dX5_goYears_94 : decode cX5_goYears 94 = .ok (.iadd, 1) := by decide +kernel
theorem dX5_goYears_95 : decode cX5_goYears 95 = .ok (.iastore, 1) := by decide +kernel
theorem dX5_goYears_96 : decode cX5_goYears 96 = .ok (.aload_n 0, 1) := by decide +kernel
theorem dX5_goYears_97 : decode cX5_goYears 97 = .ok (.getfield 31, 3) := by decide +kernel
theorem dX5_goYears_100 : decode cX5_goYears 100 = .ok (.bipush 7, 2) := by decide +kernel
theorem dX5_goYears_102 : decode cX5_goYears 102 = .ok (.dup2, 1) := by decide +kernel
theorem dX5_goYears_103 : decode cX5_goYears 103 = .ok (.iaload, 1) := by decide +kernel
theorem dX5_goYears_104 : decode cX5_goYears 104 = .ok (.iload_n 2, 1) := by decide +kernel
theorem dX5_goYears_105 : decode cX5_goYears 105 = .ok (.iconst 1, 1) := by decide +kernel
theorem dX5_goYears_106 : decode cX5_goYears 106 = .ok (.if_icmp .le 7, 3) := by decide +kernel
theorem dX5_goYears_109 : decode cX5_goYears 109 = .ok (.iload_n 1, 1) := by decide +kernel
theorem dX5_goYears_110 : decode cX5_goYears 110 = .ok (.goto 4, 3) := by decide +kernel
theorem dX5_goYears_113 : decode cX5_goYears 113 = .ok (.iconst 0, 1) := by decide +kernel
theorem dX5_goYears_114 : decode cX5_goYears 114 = .ok (.iadd, 1) := by decide +kernel
theorem dX5_goYears_115 : decode cX5_goYears 115 = .ok (.iastore, 1) := by decide +kernel
theorem dX5_goYears_116 : decode cX5_goYears 116 = .ok (.aload_n 0, 1) := by decide +kernel
theorem dX5_goYears_117 : decode cX5_goYears 117 = .ok (.getfield 31, 3) := by decide +kernel
theorem dX5_goYears_120 : decode cX5_goYears 120 = .ok (.bipush 8, 2) := by decide +kernel
theorem dX5_goYears_122 : decode cX5_goYears 122 = .ok (.dup2, 1) := by decide +kernel
theorem dX5_goYears_123 : decode cX5_goYears 123 = .ok (.iaload, 1) := by decide +kernel
theorem dX5_goYears_124 : decode cX5_goYears 124 = .ok (.aload_n 0, 1) := by decide +kernel
theorem dX5_goYears_125 : decode cX5_goYears 125 = .ok (.getfield 117, 3) := by decide +kernel
theorem dX5_goYears_128 : decode cX5_goYears 128 = .ok (.ifCond .ne 7, 3) := by decide +kernel
theorem dX5_goYears_131 : decode cX5_goYears 131 = .ok (.iload_n 1, 1) := by decide +kernel
theorem dX5_goYears_132 : decode cX5_goYears 132 = .ok (.goto 4, 3) := by decide +kernel
theorem dX5_goYears_135 : decode cX5_goYears 135 = .ok (.iconst 0, 1) := by decide +kernel
theorem dX5_goYears_136 : decode cX5_goYears 136 = .ok (.iadd, 1) := by decide +kernel
theorem dX5_goYears_137 : decode cX5_goYears 137 = .ok (.iastore, 1) := by decide +kernel
theorem dX5_goYears_138 : decode cX5_goYears 138 = .ok (.return_, 1) := by decide +kernel
set_option maxRecDepth 20000 in
theorem ggX5_happen_X5_goYears : GoodIn wsX5_happen wsX5_goYears := goodIn_r _ [7, 2, 8, 9, 48, 49, 50, 51, 52, 53, 54, 55, 56, 57, 58, 59, 60, 61, 62, 63, 64, 65, 66, 67, 68, 69, 70, 71] (by decide +kernel) (by decide +kernel)
set_option maxRecDepth 20000 in
theorem gX5_happen_X5_goYears : GoodIn wsX5_happen (wsV RX5 120 RX5 yX5_goYears wsX5_goYears) := goodIn_app (goodIn_of _ (by decide +kernel)) ggX5_happen_X5_goYears
set_option maxRecDepth 20000 in
theorem ggX5_happen_X5_rule : GoodIn wsX5_happen wsX5_rule := goodIn_r _ [13, 14, 2, 48, 49, 50, 51, 52, 53, 54, 55, 56, 57, 58, 59, 60, 61, 62, 63, 64, 65, 66, 67, 68, 69, 70, 71] (by decide +kernel) (by decide +kernel)
set_option maxRecDepth 20000 in
theorem gX5_happen_X5_rule : GoodIn wsX5_happen (wsV RX5 124 RX5 yX5_rule wsX5_rule) := goodIn_app (goodIn_of _ (by decide +kernel)) ggX5_happen_X5_rule
set_option maxRecDepth 20000 in
theorem ggX5_happen_X5_isThere : GoodIn wsX5_happen wsX5_isThere := goodIn_r _ [18, 19, 20, 21, 6, 22, 23, 24, 25, 26, 48, 49, 50, 51, 52, 53, 54, 55, 56, 57, 58, 59, 60, 61, 62, 63, 64, 65, 66, 67, 68, 69, 70, 71] (by decide +kernel) (by decide +kernel)
set_option maxRecDepth 20000 in
theorem gX5_happen_X5_isThere : GoodIn wsX5_happen (wsV RX5 76 RX5 yX5_isThere wsX5_isThere) := goodIn_app (goodIn_of _ (by decide +kernel)) ggX5_happen_X5_isThere
set_option maxRecDepth 20000 in
theorem ggX5_happen_X5_rulersBy : GoodIn wsX5_happen wsX5_rulersBy := goodIn_r _ [30, 31, 32, 33, 6, 34, 35, 36, 37, 38, 1, 39, 40, 41, 42, 43, 15, 16, 17, 18, 19, 20, 21, 22, 23, 24, 25, 26, 48, 49, 50, 51, 52, 53, 54, 55, 56, 57, 58, 59, 60, 61, 62, 63, 64, 65, 66, 67, 68, 69, 70, 71] (by decide +kernel) (by decide +kernel)
set_option maxRecDepth 20000 in
theorem gX5_happen_X5_rulersBy : GoodIn wsX5_happen (wsV RX5 111 RX5 yX5_rulersBy wsX5_rulersBy) := goodIn_app (goodIn_of _ (by decide +kernel)) ggX5_happen_X5_rulersBy
set_option maxRecDepth 20000 in
theorem ggX5_happen_X5_sprinkledBy : GoodIn wsX5_happen wsX5_sprinkledBy := goodIn_r _ [47, 39, 35, 36, 37, 6, 38, 1, 40, 41, 42, 43, 15, 16, 17, 18, 19, 20, 21, 22, 23, 24, 25, 26, 48, 49, 50, 51, 52, 53, 54, 55, 56, 57, 58, 59, 60, 61, 62, 63, 64, 65, 66, 67, 68, 69, 70, 71] (by decide +kernel) (by decide +kernel)
set_option maxRecDepth 20000 in
theorem gX5_happen_X5_sprinkledBy : GoodIn wsX5_happen (wsV RX5 127 RX5 yX5_sprinkledBy wsX5_sprinkledBy) := goodIn_app (goodIn_of _ (by decide +kernel)) ggX5_happen_X5_sprinkledBy
theorem dX5_happen_0 : decode cX5_happen 0 = .ok (.iload_n 1, 1) := by decide +kernel
theorem dX5_happen_1 : decode cX5_happen 1 = .ok (.ifCond .ne 17, 3) := by decide +kernel
theorem dX5_happen_4 : decode cX5_happen 4 = .ok (.iload_n 2, 1) := by decide +kernel
theorem dX5_happen_5 : decode cX5_happen 5 = .ok (.bipush 46, 2) := by decide +kernel
theorem dX5_happen_7 : decode cX5_happen 7 = .ok (.if_icmp .ne 11, 3) := by decide +kernel
theorem dX5_happen_10 : decode cX5_happen 10 = .ok (.aload_n 0, 1) := by decide +kernel
theorem dX5_happen_11 : decode cX5_happen 11 = .ok (.iconst 1, 1) := by decide +kernel
theorem dX5_happen_12 : decode cX5_happen 12 = .ok (.invokevirtual 120, 3) := by decide +kernel
theorem dX5_happen_15 : decode cX5_happen 15 = .ok (.goto 113, 3) := by decide +kernel
theorem dX5_happen_18 : decode cX5_happen 18 = .ok (.iload_n 1, 1) := by decide +kernel
theorem dX5_happen_19 : decode cX5_happen 19 = .ok (.bipush 45, 2) := by decide +kernel
theorem dX5_happen_21 : decode cX5_happen 21 = .ok (.if_icmp .ne 19, 3) := by decide +kernel
theorem dX5_happen_24 : decode cX5_happen 24 = .ok (.aload_n 0, 1) := by decide +kernel
theorem dX5_happen_25 : decode cX5_happen 25 = .ok (.iconst 0, 1) := by decide +kernel
theorem dX5_happen_26 : decode cX5_happen 26 = .ok (.invokevirtual 124, 3) := by decide +kernel
theorem dX5_happen_29 : decode cX5_happen 29 = .ok (.aload_n 0, 1) := by decide +kernel
theorem dX5_happen_30 : decode cX5_happen 30 = .ok (.iload_n 2, 1) := by decide +kernel
theorem dX5_happen_31 : decode cX5_happen 31 = .ok (.bipush 48, 2) := by decide +kernel
theorem dX5_happen_33 : decode cX5_happen 33 = .ok (.isub, 1) := by decide +kernel
theorem dX5_happen_34 : decode cX5_happen 34 = .ok (.invokevirtual 120, 3) := by decide +kernel
theorem dX5_happen_37 : decode cX5_happen 37 = .ok (.goto 91, 3) := by decide +kernel
theorem dX5_happen_40 : decode cX5_happen 40 = .ok (.iload_n 1, 1) := by decide +kernel
theorem dX5_happen_41 : decode cX5_happen 41 = .ok (.bipush 126, 2) := by decide +kernel
theorem dX5_happen_43 : decode cX5_happen 43 = .ok (.if_icmp .ne 45, 3) := by decide +kernel
theorem dX5_happen_46 : decode cX5_happen 46 = .ok (.iload_n 2, 1) := by decide +kernel
theorem dX5_happen_47 : decode cX5_happen 47 = .ok (.bipush 65, 2) := by decide +kernel
theorem dX5_happen_49 : decode cX5_happen 49 = .ok (.isub, 1) := by decide +kernel
theorem dX5_happen_50 : decode cX5_happen 50 = .ok (.istore_n 3, 1) := by decide +kernel
theorem dX5_happen_51 : decode cX5_happen 51 = .ok (.aload_n 0, 1) := by decide +kernel
theorem dX5_happen_52 : decode cX5_happen 52 = .ok (.iload_n 3, 1) := by decide +kernel
theorem dX5_happen_53 : decode cX5_happen 53 = .ok (.invokevirtual 76, 3) := by decide +kernel
theorem dX5_happen_56 : decode cX5_happen 56 = .ok (.ifCond .eq 29, 3) := by decide +kernel
theorem dX5_happen_59 : decode cX5_happen 59 = .ok (.aload_n 0, 1) := by decide +kernel
theorem dX5_happen_60 : decode cX5_happen 60 = .ok (.dup, 1) := by decide +kernel
theorem dX5_happen_61 : decode cX5_happen 61 = .ok (.getfield 69, 3) := by decide +kernel
theorem dX5_happen_64 : decode cX5_happen 64 = .ok (.iconst 1, 1) := by decide +kernel
theorem dX5_happen_65 : decode cX5_happen 65 = .ok (.iload_n 3, 1) := by decide +kernel
theorem dX5_happen_66 : decode cX5_happen 66 = .ok (.ishl, 1) := by decide +kernel
theorem dX5_happen_67 : decode cX5_happen 67 = .ok (.ior, 1) := by decide +kernel
theorem dX5_happen_68 : decode cX5_happen 68 = .ok (.putfield 69, 3) := by decide +kernel
theorem dX5_happen_71 : decode cX5_happen 71 = .ok (.aload_n 0, 1) := by decide +kernel
theorem dX5_happen_72 : decode cX5_happen 72 = .ok (.aload_n 0, 1) := by decide +kernel
theorem dX5_happen_73 : decode cX5_happen 73 = .ok (.getfield 117, 3) := by decide +kernel
theorem dX5_happen_76 : decode cX5_happen 76 = .ok (.iconst 1, 1) := by decide +kernel
theorem dX5_happen_77 : decode cX5_happen 77 = .ok (.iload_n 3, 1) := by decide +kernel
theorem dX5_happen_78 : decode cX5_happen 78 = .ok (.ishl, 1) := by decide +kernel
theorem dX5_happen_79 : decode cX5_happen 79 = .ok (.iconst (-1), 1) := by decide +kernel
theorem dX5_happen_80 : decode cX5_happen 80 = .ok (.ixor, 1) := by decide +kernel
theorem dX5_happen_81 : decode cX5_happen 81 = .ok (.iand, 1) := by decide +kernel
theorem dX5_happen_82 : decode cX5_happen 82 = .ok (.invokevirtual 124, 3) := by decide +kernel
theorem dX5_happen_85 : decode cX5_happen 85 = .ok (.goto 43, 3) := by decide +kernel
theorem dX5_happen_88 : decode cX5_happen 88 = .ok (.iload_n 1, 1) := by decide +kernel
theorem dX5_happen_89 : decode cX5_happen 89 = .ok (.ifCond .ne 14, 3) := by decide +kernel
theorem dX5_happen_92 : decode cX5_happen 92 = .ok (.aload_n 0, 1) := by decide +kernel
theorem dX5_happen_93 : decode cX5_happen 93 = .ok (.iload_n 2, 1) := by decide +kernel
theorem dX5_happen_94 : decode cX5_happen 94 = .ok (.bipush 48, 2) := by decide +kernel
theorem dX5_happen_96 : decode cX5_happen 96 = .ok (.isub, 1) := by decide +kernel
theorem dX5_happen_97 : decode cX5_happen 97 = .ok (.invokevirtual 111, 3) := by decide +kernel
theorem dX5_happen_100 : decode cX5_happen 100 = .ok (.goto 11, 3) := by decide +kernel
theorem dX5_happen_103 : decode cX5_happen 103 = .ok (.aload_n 0, 1) := by decide +kernel
theorem dX5_happen_104 : decode cX5_happen 104 = .ok (.iload_n 2, 1) := by decide +kernel
theorem dX5_happen_105 : decode cX5_happen 105 = .ok (.bipush 48, 2) := by decide +kernel
theorem dX5_happen_107 : decode cX5_happen 107 = .ok (.isub, 1) := by decide +kernel
theorem dX5_happen_108 : decode cX5_happen 108 = .ok (.invokevirtual 127, 3) := by decide +kernel
theorem dX5_happen_111 : decode cX5_happen 111 = .ok (.istore_n 3, 1) := by decide +kernel
theorem dX5_happen_112 : decode cX5_happen 112 = .ok (.aload_n 0, 1) := by decide +kernel
theorem dX5_happen_113 : decode cX5_happen 113 = .ok (.iload_n 3, 1) := by decide +kernel
theorem dX5_happen_114 : decode cX5_happen 114 = .ok (.ifCond .ne 10, 3) := by decide +kernel
theorem dX5_happen_117 : decode cX5_happen 117 = .ok (.aload_n 0, 1) := by decide +kernel
theorem dX5_happen_118 : decode cX5_happen 118 = .ok (.getfield 117, 3) := by decide +kernel
theorem dX5_happen_121 : decode cX5_happen 121 = .ok (.goto 4, 3) := by decide +kernel
theorem dX5_happen_124 : decode cX5_happen 124 = .ok (.iload_n 3, 1) := by decide +kernel
theorem dX5_happen_125 : decode cX5_happen 125 = .ok (.invokevirtual 124, 3) := by decide +kernel
theorem dX5_happen_128 : decode cX5_happen 128 = .ok (.return_, 1) := by decide +kernel
set_option maxRecDepth 20000 in
theorem ggX5_goParts_X5_isOpening : GoodIn wsX5_goParts wsX5_isOpening := goodIn_r _ [10] (by decide +kernel) (by decide +kernel)
set_option maxRecDepth 20000 in
theorem gX5_goParts_X5_isOpening : GoodIn wsX5_goParts (va_wsS RX5 101 yX5_isOpening wsX5_isOpening) := goodIn_app (goodIn_of _ (by decide +kernel)) ggX5_goParts_X5_isOpening
set_option maxRecDepth 20000 in
theorem ggX5_goParts_X5_happen : GoodIn wsX5_goParts wsX5_happen := goodIn_r _ [14, 4, 3, 15, 16, 17, 9, 18, 1, 19, 20, 21, 22, 23, 2, 24, 25, 26, 27, 28, 29, 30, 31, 32, 33, 34, 35, 36, 37, 38, 39, 40, 41, 42, 43, 44, 45, 46, 47, 48, 49, 50, 51, 52, 53, 54, 55, 56, 57, 58, 59, 60, 61, 62, 63, 64, 65, 66, 67, 68, 69, 70, 71, 72, 73, 74, 75, 76, 77, 78, 79, 80] (by decide +kernel) (by decide +kernel)
set_option maxRecDepth 20000 in
theorem gX5_goParts_X5_happen : GoodIn wsX5_goParts (wsV RX5 130 RX5 yX5_happen wsX5_happen) := goodIn_app (goodIn_of _ (by decide +kernel)) ggX5_goParts_X5_happen
theorem dX5_goParts_0 : decode cX5_goParts 0 = .ok (.iconst 0, 1) := by decide +kernel
theorem dX5_goParts_1 : decode cX5_goParts 1 = .ok (.istore_n 2, 1) := by decide +kernel
theorem dX5_goParts_2 : decode cX5_goParts 2 = .ok (.iload_n 2, 1) := by decide +kernel
theorem dX5_goParts_3 : decode cX5_goParts 3 = .ok (.bipush 9, 2) := by decide +kernel
theorem dX5_goParts_5 : decode cX5_goParts 5 = .ok (.if_icmp .ge 16, 3) := by decide +kernel
theorem dX5_goParts_8 : decode cX5_goParts 8 = .ok (.aload_n 0, 1) := by decide +kernel
theorem dX5_goParts_9 : decode cX5_goParts 9 = .ok (.getfield 31, 3) := by decide +kernel
theorem dX5_goParts_12 : decode cX5_goParts 12 = .ok (.iload_n 2, 1) := by decide +kernel
theorem dX5_goParts_13 : decode cX5_goParts 13 = .ok (.iconst 0, 1) := by decide +kernel
theorem dX5_goParts_14 : decode cX5_goParts 14 = .ok (.iastore, 1) := by decide +kernel
theorem dX5_goParts_15 : decode cX5_goParts 15 = .ok (.iinc 2 1, 3) := by decide +kernel
theorem dX5_goParts_18 : decode cX5_goParts 18 = .ok (.goto (-16), 3) := by decide +kernel
theorem dX5_goParts_21 : decode cX5_goParts 21 = .ok (.aload_n 0, 1) := by decide +kernel
theorem dX5_goParts_22 : decode cX5_goParts 22 = .ok (.iconst 0, 1) := by decide +kernel
theorem dX5_goParts_23 : decode cX5_goParts 23 = .ok (.putfield 114, 3) := by decide +kernel
theorem dX5_goParts_26 : decode cX5_goParts 26 = .ok (.aload_n 0, 1) := by decide +kernel
theorem dX5_goParts_27 : decode cX5_goParts 27 = .ok (.iconst 0, 1) := by decide +kernel
theorem dX5_goParts_28 : decode cX5_goParts 28 = .ok (.putfield 117, 3) := by decide +kernel
theorem dX5_goParts_31 : decode cX5_goParts 31 = .ok (.aload_n 0, 1) := by decide +kernel
theorem dX5_goParts_32 : decode cX5_goParts 32 = .ok (.getfield 69, 3) := by decide +kernel
theorem dX5_goParts_35 : decode cX5_goParts 35 = .ok (.istore_n 2, 1) := by decide +kernel
theorem dX5_goParts_36 : decode cX5_goParts 36 = .ok (.iconst 0, 1) := by decide +kernel
theorem dX5_goParts_37 : decode cX5_goParts 37 = .ok (.istore_n 3, 1) := by decide +kernel
theorem dX5_goParts_38 : decode cX5_goParts 38 = .ok (.iconst 0, 1) := by decide +kernel
theorem dX5_goParts_39 : decode cX5_goParts 39 = .ok (.istore 4, 2) := by decide +kernel
theorem dX5_goParts_41 : decode cX5_goParts 41 = .ok (.iconst 0, 1) := by decide +kernel
theorem dX5_goParts_42 : decode cX5_goParts 42 = .ok (.istore 5, 2) := by decide +kernel
theorem dX5_goParts_44 : decode cX5_goParts 44 = .ok (.iload 5, 2) := by decide +kernel
theorem dX5_goParts_46 : decode cX5_goParts 46 = .ok (.aload_n 0, 1) := by decide +kernel
theorem dX5_goParts_47 : decode cX5_goParts 47 = .ok (.getfield 86, 3) := by decide +kernel
theorem dX5_goParts_50 : decode cX5_goParts 50 = .ok (.if_icmp .ge 61, 3) := by decide +kernel
theorem dX5_goParts_53 : decode cX5_goParts 53 = .ok (.aload_n 0, 1) := by decide +kernel
theorem dX5_goParts_54 : decode cX5_goParts 54 = .ok (.getfield 28, 3) := by decide +kernel
theorem dX5_goParts_57 : decode cX5_goParts 57 = .ok (.iload 5, 2) := by decide +kernel
theorem dX5_goParts_59 : decode cX5_goParts 59 = .ok (.iaload, 1) := by decide +kernel
theorem dX5_goParts_60 : decode cX5_goParts 60 = .ok (.iload_n 3, 1) := by decide +kernel
theorem dX5_goParts_61 : decode cX5_goParts 61 = .ok (.invokestatic 101, 3) := by decide +kernel
theorem dX5_goParts_64 : decode cX5_goParts 64 = .ok (.ifCond .eq 14, 3) := by decide +kernel
theorem dX5_goParts_67 : decode cX5_goParts 67 = .ok (.aload_n 0, 1) := by decide +kernel
theorem dX5_goParts_68 : decode cX5_goParts 68 = .ok (.getfield 28, 3) := by decide +kernel
theorem dX5_goParts_71 : decode cX5_goParts 71 = .ok (.iload 5, 2) := by decide +kernel
theorem dX5_goParts_73 : decode cX5_goParts 73 = .ok (.iaload, 1) := by decide +kernel
theorem dX5_goParts_74 : decode cX5_goParts 74 = .ok (.istore_n 3, 1) := by decide +kernel
theorem dX5_goParts_75 : decode cX5_goParts 75 = .ok (.goto 30, 3) := by decide +kernel
theorem dX5_goParts_78 : decode cX5_goParts 78 = .ok (.iload_n 1, 1) := by decide +kernel
theorem dX5_goParts_79 : decode cX5_goParts 79 = .ok (.ifCond .lt 9, 3) := by decide +kernel
theorem dX5_goParts_82 : decode cX5_goParts 82 = .ok (.iload 4, 2) := by decide +kernel
theorem dX5_goParts_84 : decode cX5_goParts 84 = .ok (.iload_n 1, 1) := by decide +kernel
theorem dX5_goParts_85 : decode cX5_goParts 85 = .ok (.if_icmp .ge 15, 3) := by decide +kernel
theorem dX5_goParts_88 : decode cX5_goParts 88 = .ok (.aload_n 0, 1) := by decide +kernel
theorem dX5_goParts_89 : decode cX5_goParts 89 = .ok (.iload_n 3, 1) := by decide +kernel
theorem dX5_goParts_90 : decode cX5_goParts 90 = .ok (.aload_n 0, 1) := by decide +kernel
theorem dX5_goParts_91 : decode cX5_goParts 91 = .ok (.getfield 28, 3) := by decide +kernel
theorem dX5_goParts_94 : decode cX5_goParts 94 = .ok (.iload 5, 2) := by decide +kernel
theorem dX5_goParts_96 : decode cX5_goParts 96 = .ok (.iaload, 1) := by decide +kernel
theorem dX5_goParts_97 : decode cX5_goParts 97 = .ok (.invokevirtual 130, 3) := by decide +kernel
theorem dX5_goParts_100 : decode cX5_goParts 100 = .ok (.iinc 4 1, 3) := by decide +kernel
theorem dX5_goParts_103 : decode cX5_goParts 103 = .ok (.iconst 0, 1) := by decide +kernel
theorem dX5_goParts_104 : decode cX5_goParts 104 = .ok (.istore_n 3, 1) := by decide +kernel
theorem dX5_goParts_105 : decode cX5_goParts 105 = .ok (.iinc 5 1, 3) := by decide +kernel
theorem dX5_goParts_108 : decode cX5_goParts 108 = .ok (.goto (-64), 3) := by decide +kernel
theorem dX5_goParts_111 : decode cX5_goParts 111 = .ok (.aload_n 0, 1) := by decide +kernel
theorem dX5_goParts_112 : decode cX5_goParts 112 = .ok (.iload_n 2, 1) := by decide +kernel
theorem dX5_goParts_113 : decode cX5_goParts 113 = .ok (.putfield 69, 3) := by decide +kernel
theorem dX5_goParts_116 : decode cX5_goParts 116 = .ok (.iload 4, 2) := by decide +kernel
theorem dX5_goParts_118 : decode cX5_goParts 118 = .ok (.ireturn, 1) := by decide +kernel
set_option maxRecDepth 20000 in
theorem ggX5_reign_X5_fault : GoodIn wsX5_reign wsX5_fault := goodIn_r _ [7, 8, 9, 10, 11, 6, 12, 13, 14, 15, 16, 17, 18, 19, 20, 21, 22, 73, 74, 75, 76, 77, 78, 79, 80, 81, 82, 83, 84, 85, 86, 87, 88, 89, 90, 91, 92, 93, 94, 95, 96] (by decide +kernel) (by decide +kernel)
set_option maxRecDepth 20000 in
theorem gX5_reign_X5_fault : GoodIn wsX5_reign (wsV RX5 134 RX5 yX5_fault wsX5_fault) := goodIn_app (goodIn_of _ (by decide +kernel)) ggX5_reign_X5_fault
set_option maxRecDepth 20000 in
theorem ggX5_reign_X5_goParts : GoodIn wsX5_reign wsX5_goParts := goodIn_r _ [26, 27, 28, 2, 29, 8, 9, 20, 21, 6, 22, 30, 31, 32, 33, 34, 35, 36, 37, 38, 39, 40, 41, 42, 43, 44, 45, 46, 47, 48, 49, 50, 51, 17, 18, 19, 52, 53, 54, 55, 56, 57, 58, 59, 60, 61, 62, 63, 64, 65, 66, 67, 68, 69, 70, 71, 72, 73, 74, 75, 76, 77, 78, 79, 80, 81, 82, 83, 84, 85, 86, 87, 88, 89, 90, 91, 92, 93, 94, 95, 96] (by decide +kernel) (by decide +kernel)
set_option maxRecDepth 20000 in
theorem gX5_reign_X5_goParts : GoodIn wsX5_reign (wsV RX5 138 RX5 yX5_goParts wsX5_goParts) := goodIn_app (goodIn_of _ (by decide +kernel)) ggX5_reign_X5_goParts
set_option maxRecDepth 20000 in
theorem ggX5_reign_X5_in : GoodIn wsX5_reign wsX5_in := goodIn_r _ [19] (by decide +kernel) (by decide +kernel)
set_option maxRecDepth 20000 in
theorem gX5_reign_X5_in : GoodIn wsX5_reign (va_wsS RX5 53 yX5_in wsX5_in) := goodIn_app (goodIn_of _ (by decide +kernel)) ggX5_reign_X5_in
theorem dX5_reign_0 : decode cX5_reign 0 = .ok (.aload_n 0, 1) := by decide +kernel
theorem dX5_reign_1 : decode cX5_reign 1 = .ok (.invokevirtual 134, 3) := by decide +kernel
theorem dX5_reign_4 : decode cX5_reign 4 = .ok (.ifCond .lt 6, 3) := by decide +kernel
theorem dX5_reign_7 : decode cX5_reign 7 = .ok (.bipush (-5), 2) := by decide +kernel
theorem dX5_reign_9 : decode cX5_reign 9 = .ok (.ireturn, 1) := by decide +kernel
theorem dX5_reign_10 : decode cX5_reign 10 = .ok (.aload_n 0, 1) := by decide +kernel
theorem dX5_reign_11 : decode cX5_reign 11 = .ok (.iload_n 1, 1) := by decide +kernel
theorem dX5_reign_12 : decode cX5_reign 12 = .ok (.invokevirtual 138, 3) := by decide +kernel
theorem dX5_reign_15 : decode cX5_reign 15 = .ok (.istore_n 2, 1) := by decide +kernel
theorem dX5_reign_16 : decode cX5_reign 16 = .ok (.iload_n 1, 1) := by decide +kernel
theorem dX5_reign_17 : decode cX5_reign 17 = .ok (.i2l, 1) := by decide +kernel
theorem dX5_reign_18 : decode cX5_reign 18 = .ok (.ldc2_w 141, 3) := by decide +kernel
theorem dX5_reign_21 : decode cX5_reign 21 = .ok (.iload_n 2, 1) := by decide +kernel
theorem dX5_reign_22 : decode cX5_reign 22 = .ok (.i2l, 1) := by decide +kernel
theorem dX5_reign_23 : decode cX5_reign 23 = .ok (.invokestatic 53, 3) := by decide +kernel
theorem dX5_reign_26 : decode cX5_reign 26 = .ok (.ifCond .ne 6, 3) := by decide +kernel
theorem dX5_reign_29 : decode cX5_reign 29 = .ok (.bipush (-2), 2) := by decide +kernel
theorem dX5_reign_31 : decode cX5_reign 31 = .ok (.ireturn, 1) := by decide +kernel
theorem dX5_reign_32 : decode cX5_reign 32 = .ok (.aload_n 0, 1) := by decide +kernel
theorem dX5_reign_33 : decode cX5_reign 33 = .ok (.getfield 117, 3) := by decide +kernel
theorem dX5_reign_36 : decode cX5_reign 36 = .ok (.ifCond .ne 8, 3) := by decide +kernel
theorem dX5_reign_39 : decode cX5_reign 39 = .ok (.bipush (-6), 2) := by decide +kernel
theorem dX5_reign_41 : decode cX5_reign 41 = .ok (.goto 7, 3) := by decide +kernel
theorem dX5_reign_44 : decode cX5_reign 44 = .ok (.aload_n 0, 1) := by decide +kernel
theorem dX5_reign_45 : decode cX5_reign 45 = .ok (.getfield 117, 3) := by decide +kernel
theorem dX5_reign_48 : decode cX5_reign 48 = .ok (.ireturn, 1) := by decide +kernel
set_option maxRecDepth 20000 in
theorem ggX5_years_X5_fault : GoodIn wsX5_years wsX5_fault := goodIn_r _ [8, 9, 10, 11, 12, 7, 13, 14, 15, 16, 17, 18, 19, 20, 21, 22, 23, 73, 74, 75, 76, 77, 78, 79, 80, 81, 82, 83, 84, 85, 86, 87, 88, 89, 90, 91, 92, 93, 94, 95, 96] (by decide +kernel) (by decide +kernel)
set_option maxRecDepth 20000 in
theorem gX5_years_X5_fault : GoodIn wsX5_years (wsV RX5 134 RX5 yX5_fault wsX5_fault) := goodIn_app (goodIn_of _ (by decide +kernel)) ggX5_years_X5_fault
set_option maxRecDepth 20000 in
theorem ggX5_years_X5_in : GoodIn wsX5_years wsX5_in := goodIn_r _ [20] (by decide +kernel) (by decide +kernel)
set_option maxRecDepth 20000 in
theorem gX5_years_X5_in : GoodIn wsX5_years (va_wsS RX5 53 yX5_in wsX5_in) := goodIn_app (goodIn_of _ (by decide +kernel)) ggX5_years_X5_in
set_option maxRecDepth 20000 in
theorem ggX5_years_X5_goParts : GoodIn wsX5_years wsX5_goParts := goodIn_r _ [27, 3, 2, 28, 29, 9, 10, 21, 22, 7, 23, 30, 31, 32, 33, 34, 35, 36, 37, 38, 39, 40, 41, 42, 43, 44, 45, 46, 47, 48, 49, 50, 51, 18, 19, 20, 52, 53, 54, 55, 56, 57, 58, 59, 60, 61, 62, 63, 64, 65, 66, 67, 68, 69, 70, 71, 72, 73, 74, 75, 76, 77, 78, 79, 80, 81, 82, 83, 84, 85, 86, 87, 88, 89, 90, 91, 92, 93, 94, 95, 96] (by decide +kernel) (by decide +kernel)
set_option maxRecDepth 20000 in
theorem gX5_years_X5_goParts : GoodIn wsX5_years (wsV RX5 138 RX5 yX5_goParts wsX5_goParts) := goodIn_app (goodIn_of _ (by decide +kernel)) ggX5_years_X5_goParts
theorem dX5_years_0 : decode cX5_years 0 = .ok (.aload_n 0, 1) := by decide +kernel
theorem dX5_years_1 : decode cX5_years 1 = .ok (.invokevirtual 134, 3) := by decide +kernel
theorem dX5_years_4 : decode cX5_years 4 = .ok (.ifCond .lt 6, 3) := by decide +kernel
theorem dX5_years_7 : decode cX5_years 7 = .ok (.bipush (-5), 2) := by decide +kernel
theorem dX5_years_9 : decode cX5_years 9 = .ok (.ireturn, 1) := by decide +kernel
theorem dX5_years_10 : decode cX5_years 10 = .ok (.iload_n 1, 1) := by decide +kernel
theorem dX5_years_11 : decode cX5_years 11 = .ok (.i2l, 1) := by decide +kernel
theorem dX5_years_12 : decode cX5_years 12 = .ok (.lconst 0, 1) := by decide +kernel
theorem dX5_years_13 : decode cX5_years 13 = .ok (.ldc2_w 57, 3) := by decide +kernel
theorem dX5_years_16 : decode cX5_years 16 = .ok (.invokestatic 53, 3) := by decide +kernel
theorem dX5_years_19 : decode cX5_years 19 = .ok (.ifCond .ne 6, 3) := by decide +kernel
theorem dX5_years_22 : decode cX5_years 22 = .ok (.bipush (-2), 2) := by decide +kernel
theorem dX5_years_24 : decode cX5_years 24 = .ok (.ireturn, 1) := by decide +kernel
theorem dX5_years_25 : decode cX5_years 25 = .ok (.aload_n 0, 1) := by decide +kernel
theorem dX5_years_26 : decode cX5_years 26 = .ok (.iconst (-1), 1) := by decide +kernel
theorem dX5_years_27 : decode cX5_years 27 = .ok (.invokevirtual 138, 3) := by decide +kernel
theorem dX5_years_30 : decode cX5_years 30 = .ok (.pop, 1) := by decide +kernel
theorem dX5_years_31 : decode cX5_years 31 = .ok (.iload_n 1, 1) := by decide +kernel
theorem dX5_years_32 : decode cX5_years 32 = .ok (.bipush 9, 2) := by decide +kernel
theorem dX5_years_34 : decode cX5_years 34 = .ok (.if_icmp .ne 10, 3) := by decide +kernel
theorem dX5_years_37 : decode cX5_years 37 = .ok (.aload_n 0, 1) := by decide +kernel
theorem dX5_years_38 : decode cX5_years 38 = .ok (.getfield 114, 3) := by decide +kernel
theorem dX5_years_41 : decode cX5_years 41 = .ok (.goto 9, 3) := by decide +kernel
theorem dX5_years_44 : decode cX5_years 44 = .ok (.aload_n 0, 1) := by decide +kernel
theorem dX5_years_45 : decode cX5_years 45 = .ok (.getfield 31, 3) := by decide +kernel
theorem dX5_years_48 : decode cX5_years 48 = .ok (.iload_n 1, 1) := by decide +kernel
theorem dX5_years_49 : decode cX5_years 49 = .ok (.iaload, 1) := by decide +kernel
theorem dX5_years_50 : decode cX5_years 50 = .ok (.ireturn, 1) := by decide +kernel
theorem dX5_weights_0 : decode cX5_weights 0 = .ok (.iconst 0, 1) := by decide +kernel
theorem dX5_weights_1 : decode cX5_weights 1 = .ok (.istore_n 1, 1) := by decide +kernel
theorem dX5_weights_2 : decode cX5_weights 2 = .ok (.iconst 0, 1) := by decide +kernel
theorem dX5_weights_3 : decode cX5_weights 3 = .ok (.istore_n 2, 1) := by decide +kernel
theorem dX5_weights_4 : decode cX5_weights 4 = .ok (.iload_n 2, 1) := by decide +kernel
theorem dX5_weights_5 : decode cX5_weights 5 = .ok (.bipush 10, 2) := by decide +kernel
theorem dX5_weights_7 : decode cX5_weights 7 = .ok (.if_icmp .ge 18, 3) := by decide +kernel
theorem dX5_weights_10 : decode cX5_weights 10 = .ok (.iload_n 1, 1) := by decide +kernel
theorem dX5_weights_11 : decode cX5_weights 11 = .ok (.aload_n 0, 1) := by decide +kernel
theorem dX5_weights_12 : decode cX5_weights 12 = .ok (.getfield 19, 3) := by decide +kernel
theorem dX5_weights_15 : decode cX5_weights 15 = .ok (.iload_n 2, 1) := by decide +kernel
theorem dX5_weights_16 : decode cX5_weights 16 = .ok (.iaload, 1) := by decide +kernel
theorem dX5_weights_17 : decode cX5_weights 17 = .ok (.iadd, 1) := by decide +kernel
theorem dX5_weights_18 : decode cX5_weights 18 = .ok (.istore_n 1, 1) := by decide +kernel
theorem dX5_weights_19 : decode cX5_weights 19 = .ok (.iinc 2 1, 3) := by decide +kernel
theorem dX5_weights_22 : decode cX5_weights 22 = .ok (.goto (-18), 3) := by decide +kernel
theorem dX5_weights_25 : decode cX5_weights 25 = .ok (.iload_n 1, 1) := by decide +kernel
theorem dX5_weights_26 : decode cX5_weights 26 = .ok (.ireturn, 1) := by decide +kernel
set_option maxRecDepth 20000 in
theorem ggX5_weight_X5_isPlace : GoodIn wsX5_weight wsX5_isPlace := goodIn_r _ [6, 1, 7, 8, 5, 9] (by decide +kernel) (by decide +kernel)
set_option maxRecDepth 20000 in
theorem gX5_weight_X5_isPlace : GoodIn wsX5_weight (va_wsS RX5 66 yX5_isPlace wsX5_isPlace) := goodIn_app (goodIn_of _ (by decide +kernel)) ggX5_weight_X5_isPlace
set_option maxRecDepth 20000 in
theorem ggX5_weight_X5_in : GoodIn wsX5_weight wsX5_in := goodIn_r _ [9] (by decide +kernel) (by decide +kernel)
set_option maxRecDepth 20000 in
theorem gX5_weight_X5_in : GoodIn wsX5_weight (va_wsS RX5 53 yX5_in wsX5_in) := goodIn_app (goodIn_of _ (by decide +kernel)) ggX5_weight_X5_in
set_option maxRecDepth 20000 in
theorem ggX5_weight_X5_weights : GoodIn wsX5_weight wsX5_weights := goodIn_r _ [13, 2, 14, 15, 16, 17, 18, 19, 20, 21, 22, 23, 24, 25, 26, 27, 28, 29, 30, 31, 32, 33, 34, 35, 36, 37] (by decide +kernel) (by decide +kernel)
set_option maxRecDepth 20000 in
theorem gX5_weight_X5_weights : GoodIn wsX5_weight (wsV RX5 143 RX5 yX5_weights wsX5_weights) := goodIn_app (goodIn_of _ (by decide +kernel)) ggX5_weight_X5_weights
theorem dX5_weight_0 : decode cX5_weight 0 = .ok (.iload_n 1, 1) := by decide +kernel
theorem dX5_weight_1 : decode cX5_weight 1 = .ok (.invokestatic 66, 3) := by decide +kernel
theorem dX5_weight_4 : decode cX5_weight 4 = .ok (.ifCond .ne 5, 3) := by decide +kernel
theorem dX5_weight_7 : decode cX5_weight 7 = .ok (.iconst (-1), 1) := by decide +kernel
theorem dX5_weight_8 : decode cX5_weight 8 = .ok (.ireturn, 1) := by decide +kernel
theorem dX5_weight_9 : decode cX5_weight 9 = .ok (.iload_n 2, 1) := by decide +kernel
theorem dX5_weight_10 : decode cX5_weight 10 = .ok (.i2l, 1) := by decide +kernel
theorem dX5_weight_11 : decode cX5_weight 11 = .ok (.lconst 0, 1) := by decide +kernel
theorem dX5_weight_12 : decode cX5_weight 12 = .ok (.ldc2_w 57, 3) := by decide +kernel
theorem dX5_weight_15 : decode cX5_weight 15 = .ok (.invokestatic 53, 3) := by decide +kernel
theorem dX5_weight_18 : decode cX5_weight 18 = .ok (.ifCond .eq 20, 3) := by decide +kernel
theorem dX5_weight_21 : decode cX5_weight 21 = .ok (.aload_n 0, 1) := by decide +kernel
theorem dX5_weight_22 : decode cX5_weight 22 = .ok (.invokevirtual 143, 3) := by decide +kernel
theorem dX5_weight_25 : decode cX5_weight 25 = .ok (.aload_n 0, 1) := by decide +kernel
theorem dX5_weight_26 : decode cX5_weight 26 = .ok (.getfield 19, 3) := by decide +kernel
theorem dX5_weight_29 : decode cX5_weight 29 = .ok (.iload_n 1, 1) := by decide +kernel
theorem dX5_weight_30 : decode cX5_weight 30 = .ok (.iaload, 1) := by decide +kernel
theorem dX5_weight_31 : decode cX5_weight 31 = .ok (.isub, 1) := by decide +kernel
theorem dX5_weight_32 : decode cX5_weight 32 = .ok (.iload_n 2, 1) := by decide +kernel
theorem dX5_weight_33 : decode cX5_weight 33 = .ok (.iadd, 1) := by decide +kernel
theorem dX5_weight_34 : decode cX5_weight 34 = .ok (.iconst 1, 1) := by decide +kernel
theorem dX5_weight_35 : decode cX5_weight 35 = .ok (.if_icmp .ge 6, 3) := by decide +kernel
theorem dX5_weight_38 : decode cX5_weight 38 = .ok (.bipush (-2), 2) := by decide +kernel
theorem dX5_weight_40 : decode cX5_weight 40 = .ok (.ireturn, 1) := by decide +kernel
theorem dX5_weight_41 : decode cX5_weight 41 = .ok (.aload_n 0, 1) := by decide +kernel
theorem dX5_weight_42 : decode cX5_weight 42 = .ok (.getfield 19, 3) := by decide +kernel
theorem dX5_weight_45 : decode cX5_weight 45 = .ok (.iload_n 1, 1) := by decide +kernel
theorem dX5_weight_46 : decode cX5_weight 46 = .ok (.iaload, 1) := by decide +kernel
theorem dX5_weight_47 : decode cX5_weight 47 = .ok (.istore_n 3, 1) := by decide +kernel
theorem dX5_weight_48 : decode cX5_weight 48 = .ok (.aload_n 0, 1) := by decide +kernel
theorem dX5_weight_49 : decode cX5_weight 49 = .ok (.getfield 19, 3) := by decide +kernel
theorem dX5_weight_52 : decode cX5_weight 52 = .ok (.iload_n 1, 1) := by decide +kernel
theorem dX5_weight_53 : decode cX5_weight 53 = .ok (.iload_n 2, 1) := by decide +kernel
theorem dX5_weight_54 : decode cX5_weight 54 = .ok (.iastore, 1) := by decide +kernel
theorem dX5_weight_55 : decode cX5_weight 55 = .ok (.iload_n 3, 1) := by decide +kernel
theorem dX5_weight_56 : decode cX5_weight 56 = .ok (.ireturn, 1) := by decide +kernel
set_option maxRecDepth 20000 in
theorem ggX5_sixtieths_X5_rulersBy : GoodIn wsX5_sixtieths wsX5_rulersBy := goodIn_r _ [7, 8, 9, 10, 6, 11, 12, 13, 14, 15, 16, 17, 18, 19, 20, 21, 22, 23, 24, 25, 26, 27, 28, 29, 30, 31, 32, 33, 37, 38, 39, 40, 41, 42, 43, 44, 45, 46, 47, 48, 49, 50, 51, 52, 53, 54, 55, 56, 57, 58, 59, 60] (by decide +kernel) (by decide +kernel)
set_option maxRecDepth 20000 in
theorem gX5_sixtieths_X5_rulersBy : GoodIn wsX5_sixtieths (wsV RX5 111 RX5 yX5_rulersBy wsX5_rulersBy) := goodIn_app (goodIn_of _ (by decide +kernel)) ggX5_sixtieths_X5_rulersBy
set_option maxRecDepth 20000 in
theorem ggX5_sixtieths_X5_ones : GoodIn wsX5_sixtieths wsX5_ones := goodIn_r _ [36] (by decide +kernel) (by decide +kernel)
set_option maxRecDepth 20000 in
theorem gX5_sixtieths_X5_ones : GoodIn wsX5_sixtieths (va_wsS RX5 72 yX5_ones wsX5_ones) := goodIn_app (goodIn_of _ (by decide +kernel)) ggX5_sixtieths_X5_ones
theorem dX5_sixtieths_0 : decode cX5_sixtieths 0 = .ok (.iconst 0, 1) := by decide +kernel
theorem dX5_sixtieths_1 : decode cX5_sixtieths 1 = .ok (.istore_n 2, 1) := by decide +kernel
theorem dX5_sixtieths_2 : decode cX5_sixtieths 2 = .ok (.iconst 0, 1) := by decide +kernel
theorem dX5_sixtieths_3 : decode cX5_sixtieths 3 = .ok (.istore_n 3, 1) := by decide +kernel
theorem dX5_sixtieths_4 : decode cX5_sixtieths 4 = .ok (.iload_n 3, 1) := by decide +kernel
theorem dX5_sixtieths_5 : decode cX5_sixtieths 5 = .ok (.bipush 10, 2) := by decide +kernel
theorem dX5_sixtieths_7 : decode cX5_sixtieths 7 = .ok (.if_icmp .ge 127, 3) := by decide +kernel
theorem dX5_sixtieths_10 : decode cX5_sixtieths 10 = .ok (.aload_n 0, 1) := by decide +kernel
theorem dX5_sixtieths_11 : decode cX5_sixtieths 11 = .ok (.iload_n 3, 1) := by decide +kernel
theorem dX5_sixtieths_12 : decode cX5_sixtieths 12 = .ok (.invokevirtual 111, 3) := by decide +kernel
theorem dX5_sixtieths_15 : decode cX5_sixtieths 15 = .ok (.istore 4, 2) := by decide +kernel
theorem dX5_sixtieths_17 : decode cX5_sixtieths 17 = .ok (.iconst 0, 1) := by decide +kernel
theorem dX5_sixtieths_18 : decode cX5_sixtieths 18 = .ok (.istore 5, 2) := by decide +kernel
theorem dX5_sixtieths_20 : decode cX5_sixtieths 20 = .ok (.iconst 0, 1) := by decide +kernel
theorem dX5_sixtieths_21 : decode cX5_sixtieths 21 = .ok (.istore 6, 2) := by decide +kernel
theorem dX5_sixtieths_23 : decode cX5_sixtieths 23 = .ok (.iload 6, 2) := by decide +kernel
theorem dX5_sixtieths_25 : decode cX5_sixtieths 25 = .ok (.bipush 6, 2) := by decide +kernel
theorem dX5_sixtieths_27 : decode cX5_sixtieths 27 = .ok (.if_icmp .ge 71, 3) := by decide +kernel
theorem dX5_sixtieths_30 : decode cX5_sixtieths 30 = .ok (.iload_n 1, 1) := by decide +kernel
theorem dX5_sixtieths_31 : decode cX5_sixtieths 31 = .ok (.bipush 6, 2) := by decide +kernel
theorem dX5_sixtieths_33 : decode cX5_sixtieths 33 = .ok (.if_icmp .ge 17, 3) := by decide +kernel
theorem dX5_sixtieths_36 : decode cX5_sixtieths 36 = .ok (.iload 6, 2) := by decide +kernel
theorem dX5_sixtieths_38 : decode cX5_sixtieths 38 = .ok (.iload_n 1, 1) := by decide +kernel
theorem dX5_sixtieths_39 : decode cX5_sixtieths 39 = .ok (.if_icmp .ne 7, 3) := by decide +kernel
theorem dX5_sixtieths_42 : decode cX5_sixtieths 42 = .ok (.iconst 1, 1) := by decide +kernel
theorem dX5_sixtieths_43 : decode cX5_sixtieths 43 = .ok (.goto 26, 3) := by decide +kernel
theorem dX5_sixtieths_46 : decode cX5_sixtieths 46 = .ok (.iconst 0, 1) := by decide +kernel
theorem dX5_sixtieths_47 : decode cX5_sixtieths 47 = .ok (.goto 22, 3) := by decide +kernel
theorem dX5_sixtieths_50 : decode cX5_sixtieths 50 = .ok (.aload_n 0, 1) := by decide +kernel
theorem dX5_sixtieths_51 : decode cX5_sixtieths 51 = .ok (.getfield 16, 3) := by decide +kernel
theorem dX5_sixtieths_54 : decode cX5_sixtieths 54 = .ok (.iload 6, 2) := by decide +kernel
theorem dX5_sixtieths_56 : decode cX5_sixtieths 56 = .ok (.iaload, 1) := by decide +kernel
theorem dX5_sixtieths_57 : decode cX5_sixtieths 57 = .ok (.iload_n 1, 1) := by decide +kernel
theorem dX5_sixtieths_58 : decode cX5_sixtieths 58 = .ok (.bipush 6, 2) := by decide +kernel
theorem dX5_sixtieths_60 : decode cX5_sixtieths 60 = .ok (.isub, 1) := by decide +kernel
theorem dX5_sixtieths_61 : decode cX5_sixtieths 61 = .ok (.if_icmp .ne 7, 3) := by decide +kernel
theorem dX5_sixtieths_64 : decode cX5_sixtieths 64 = .ok (.iconst 1, 1) := by decide +kernel
theorem dX5_sixtieths_65 : decode cX5_sixtieths 65 = .ok (.goto 4, 3) := by decide +kernel
theorem dX5_sixtieths_68 : decode cX5_sixtieths 68 = .ok (.iconst 0, 1) := by decide +kernel
theorem dX5_sixtieths_69 : decode cX5_sixtieths 69 = .ok (.istore 7, 2) := by decide +kernel
theorem dX5_sixtieths_71 : decode cX5_sixtieths 71 = .ok (.iload 5, 2) := by decide +kernel
theorem dX5_sixtieths_73 : decode cX5_sixtieths 73 = .ok (.iload 7, 2) := by decide +kernel
theorem dX5_sixtieths_75 : decode cX5_sixtieths 75 = .ok (.ifCond .eq 13, 3) := by decide +kernel
theorem dX5_sixtieths_78 : decode cX5_sixtieths 78 = .ok (.iload 4, 2) := by decide +kernel
theorem dX5_sixtieths_80 : decode cX5_sixtieths 80 = .ok (.iload 6, 2) := by decide +kernel
theorem dX5_sixtieths_82 : decode cX5_sixtieths 82 = .ok (.ishr, 1) := by decide +kernel
theorem dX5_sixtieths_83 : decode cX5_sixtieths 83 = .ok (.iconst 1, 1) := by decide +kernel
theorem dX5_sixtieths_84 : decode cX5_sixtieths 84 = .ok (.iand, 1) := by decide +kernel
theorem dX5_sixtieths_85 : decode cX5_sixtieths 85 = .ok (.goto 4, 3) := by decide +kernel
theorem dX5_sixtieths_88 : decode cX5_sixtieths 88 = .ok (.iconst 0, 1) := by decide +kernel
theorem dX5_sixtieths_89 : decode cX5_sixtieths 89 = .ok (.iadd, 1) := by decide +kernel
theorem dX5_sixtieths_90 : decode cX5_sixtieths 90 = .ok (.istore 5, 2) := by decide +kernel
theorem dX5_sixtieths_92 : decode cX5_sixtieths 92 = .ok (.iinc 6 1, 3) := by decide +kernel
theorem dX5_sixtieths_95 : decode cX5_sixtieths 95 = .ok (.goto (-72), 3) := by decide +kernel
theorem dX5_sixtieths_98 : decode cX5_sixtieths 98 = .ok (.iload_n 2, 1) := by decide +kernel
theorem dX5_sixtieths_99 : decode cX5_sixtieths 99 = .ok (.iload 4, 2) := by decide +kernel
theorem dX5_sixtieths_101 : decode cX5_sixtieths 101 = .ok (.ifCond .ne 7, 3) := by decide +kernel
theorem dX5_sixtieths_104 : decode cX5_sixtieths 104 = .ok (.iconst 0, 1) := by decide +kernel
theorem dX5_sixtieths_105 : decode cX5_sixtieths 105 = .ok (.goto 21, 3) := by decide +kernel
theorem dX5_sixtieths_108 : decode cX5_sixtieths 108 = .ok (.aload_n 0, 1) := by decide +kernel
theorem dX5_sixtieths_109 : decode cX5_sixtieths 109 = .ok (.getfield 19, 3) := by decide +kernel
theorem dX5_sixtieths_112 : decode cX5_sixtieths 112 = .ok (.iload_n 3, 1) := by decide +kernel
theorem dX5_sixtieths_113 : decode cX5_sixtieths 113 = .ok (.iaload, 1) := by decide +kernel
theorem dX5_sixtieths_114 : decode cX5_sixtieths 114 = .ok (.iload 5, 2) := by decide +kernel
theorem dX5_sixtieths_116 : decode cX5_sixtieths 116 = .ok (.imul, 1) := by decide +kernel
theorem dX5_sixtieths_117 : decode cX5_sixtieths 117 = .ok (.bipush 60, 2) := by decide +kernel
theorem dX5_sixtieths_119 : decode cX5_sixtieths 119 = .ok (.iload 4, 2) := by decide +kernel
theorem dX5_sixtieths_121 : decode cX5_sixtieths 121 = .ok (.invokestatic 72, 3) := by decide +kernel
theorem dX5_sixtieths_124 : decode cX5_sixtieths 124 = .ok (.idiv, 1) := by decide +kernel
theorem dX5_sixtieths_125 : decode cX5_sixtieths 125 = .ok (.imul, 1) := by decide +kernel
theorem dX5_sixtieths_126 : decode cX5_sixtieths 126 = .ok (.iadd, 1) := by decide +kernel
theorem dX5_sixtieths_127 : decode cX5_sixtieths 127 = .ok (.istore_n 2, 1) := by decide +kernel
theorem dX5_sixtieths_128 : decode cX5_sixtieths 128 = .ok (.iinc 3 1, 3) := by decide +kernel
theorem dX5_sixtieths_131 : decode cX5_sixtieths 131 = .ok (.goto (-127), 3) := by decide +kernel
theorem dX5_sixtieths_134 : decode cX5_sixtieths 134 = .ok (.iload_n 2, 1) := by decide +kernel
theorem dX5_sixtieths_135 : decode cX5_sixtieths 135 = .ok (.ireturn, 1) := by decide +kernel
theorem dX5_lowest_0 : decode cX5_lowest 0 = .ok (.lload_n 2, 1) := by decide +kernel
theorem dX5_lowest_1 : decode cX5_lowest 1 = .ok (.lstore 5, 2) := by decide +kernel
theorem dX5_lowest_3 : decode cX5_lowest 3 = .ok (.lload_n 0, 1) := by decide +kernel
theorem dX5_lowest_4 : decode cX5_lowest 4 = .ok (.lstore 7, 2) := by decide +kernel
theorem dX5_lowest_6 : decode cX5_lowest 6 = .ok (.lload 7, 2) := by decide +kernel
theorem dX5_lowest_8 : decode cX5_lowest 8 = .ok (.lconst 0, 1) := by decide +kernel
theorem dX5_lowest_9 : decode cX5_lowest 9 = .ok (.lcmp, 1) := by decide +kernel
theorem dX5_lowest_10 : decode cX5_lowest 10 = .ok (.ifCond .eq 21, 3) := by decide +kernel
theorem dX5_lowest_13 : decode cX5_lowest 13 = .ok (.lload 5, 2) := by decide +kernel
theorem dX5_lowest_15 : decode cX5_lowest 15 = .ok (.lload 7, 2) := by decide +kernel
theorem dX5_lowest_17 : decode cX5_lowest 17 = .ok (.lrem, 1) := by decide +kernel
theorem dX5_lowest_18 : decode cX5_lowest 18 = .ok (.lstore 9, 2) := by decide +kernel
theorem dX5_lowest_20 : decode cX5_lowest 20 = .ok (.lload 7, 2) := by decide +kernel
theorem dX5_lowest_22 : decode cX5_lowest 22 = .ok (.lstore 5, 2) := by decide +kernel
theorem dX5_lowest_24 : decode cX5_lowest 24 = .ok (.lload 9, 2) := by decide +kernel
theorem dX5_lowest_26 : decode cX5_lowest 26 = .ok (.lstore 7, 2) := by decide +kernel
theorem dX5_lowest_28 : decode cX5_lowest 28 = .ok (.goto (-22), 3) := by decide +kernel
theorem dX5_lowest_31 : decode cX5_lowest 31 = .ok (.iload 4, 2) := by decide +kernel
theorem dX5_lowest_33 : decode cX5_lowest 33 = .ok (.ifCond .ne 10, 3) := by decide +kernel
theorem dX5_lowest_36 : decode cX5_lowest 36 = .ok (.lload_n 0, 1) := by decide +kernel
theorem dX5_lowest_37 : decode cX5_lowest 37 = .ok (.lload 5, 2) := by decide +kernel
theorem dX5_lowest_39 : decode cX5_lowest 39 = .ok (.ldiv, 1) := by decide +kernel
theorem dX5_lowest_40 : decode cX5_lowest 40 = .ok (.goto 7, 3) := by decide +kernel
theorem dX5_lowest_43 : decode cX5_lowest 43 = .ok (.lload_n 2, 1) := by decide +kernel
theorem dX5_lowest_44 : decode cX5_lowest 44 = .ok (.lload 5, 2) := by decide +kernel
theorem dX5_lowest_46 : decode cX5_lowest 46 = .ok (.ldiv, 1) := by decide +kernel
theorem dX5_lowest_47 : decode cX5_lowest 47 = .ok (.lreturn, 1) := by decide +kernel
set_option maxRecDepth 20000 in
theorem ggX5_chance_X5_isThere : GoodIn wsX5_chance wsX5_isThere := goodIn_r _ [9, 10, 11, 12, 8, 13, 14, 15, 16, 17, 52, 53, 54, 55, 56, 57, 58, 59, 60, 61, 62, 63, 64, 65, 66, 67, 68, 69, 70, 71, 72, 73, 74, 75] (by decide +kernel) (by decide +kernel)
set_option maxRecDepth 20000 in
theorem gX5_chance_X5_isThere : GoodIn wsX5_chance (wsV RX5 76 RX5 yX5_isThere wsX5_isThere) := goodIn_app (goodIn_of _ (by decide +kernel)) ggX5_chance_X5_isThere
set_option maxRecDepth 20000 in
theorem ggX5_chance_X5_in : GoodIn wsX5_chance wsX5_in := goodIn_r _ [17] (by decide +kernel) (by decide +kernel)
set_option maxRecDepth 20000 in
theorem gX5_chance_X5_in : GoodIn wsX5_chance (va_wsS RX5 53 yX5_in wsX5_in) := goodIn_app (goodIn_of _ (by decide +kernel)) ggX5_chance_X5_in
set_option maxRecDepth 20000 in
theorem ggX5_chance_X5_sixtieths : GoodIn wsX5_chance wsX5_sixtieths := goodIn_r _ [21, 22, 23, 24, 25, 26, 8, 27, 28, 29, 30, 31, 32, 33, 34, 35, 36, 37, 38, 39, 40, 41, 5, 6, 7, 9, 10, 11, 12, 13, 14, 15, 16, 17, 42, 43, 44, 52, 53, 54, 55, 56, 57, 58, 59, 60, 61, 62, 63, 64, 65, 66, 67, 68, 69, 70, 71, 72, 73, 74, 75] (by decide +kernel) (by decide +kernel)
set_option maxRecDepth 20000 in
theorem gX5_chance_X5_sixtieths : GoodIn wsX5_chance (wsV RX5 152 RX5 yX5_sixtieths wsX5_sixtieths) := goodIn_app (goodIn_of _ (by decide +kernel)) ggX5_chance_X5_sixtieths
set_option maxRecDepth 20000 in
theorem ggX5_chance_X5_weights : GoodIn wsX5_chance wsX5_weights := goodIn_r _ [48, 23, 52, 53, 54, 55, 56, 57, 58, 59, 60, 61, 62, 63, 64, 65, 66, 67, 68, 69, 70, 71, 72, 73, 74, 75] (by decide +kernel) (by decide +kernel)
set_option maxRecDepth 20000 in
theorem gX5_chance_X5_weights : GoodIn wsX5_chance (wsV RX5 143 RX5 yX5_weights wsX5_weights) := goodIn_app (goodIn_of _ (by decide +kernel)) ggX5_chance_X5_weights
set_option maxRecDepth 20000 in
theorem ggX5_chance_X5_lowest : GoodIn wsX5_chance wsX5_lowest := goodIn_r _ [51] (by decide +kernel) (by decide +kernel)
set_option maxRecDepth 20000 in
theorem gX5_chance_X5_lowest : GoodIn wsX5_chance (va_wsS RX5 155 yX5_lowest wsX5_lowest) := goodIn_app (goodIn_of _ (by decide +kernel)) ggX5_chance_X5_lowest
theorem dX5_chance_0 : decode cX5_chance 0 = .ok (.aload_n 0, 1) := by decide +kernel
theorem dX5_chance_1 : decode cX5_chance 1 = .ok (.iload_n 1, 1) := by decide +kernel
theorem dX5_chance_2 : decode cX5_chance 2 = .ok (.invokevirtual 76, 3) := by decide +kernel
theorem dX5_chance_5 : decode cX5_chance 5 = .ok (.ifCond .ne 21, 3) := by decide +kernel
theorem dX5_chance_8 : decode cX5_chance 8 = .ok (.iload_n 1, 1) := by decide +kernel
theorem dX5_chance_9 : decode cX5_chance 9 = .ok (.i2l, 1) := by decide +kernel
theorem dX5_chance_10 : decode cX5_chance 10 = .ok (.ldc2_w 146, 3) := by decide +kernel
theorem dX5_chance_13 : decode cX5_chance 13 = .ok (.ldc2_w 148, 3) := by decide +kernel
theorem dX5_chance_16 : decode cX5_chance 16 = .ok (.invokestatic 53, 3) := by decide +kernel
theorem dX5_chance_19 : decode cX5_chance 19 = .ok (.ifCond .ne 7, 3) := by decide +kernel
theorem dX5_chance_22 : decode cX5_chance 22 = .ok (.ldc2_w 150, 3) := by decide +kernel
theorem dX5_chance_25 : decode cX5_chance 25 = .ok (.lreturn, 1) := by decide +kernel
theorem dX5_chance_26 : decode cX5_chance 26 = .ok (.iload_n 2, 1) := by decide +kernel
theorem dX5_chance_27 : decode cX5_chance 27 = .ok (.i2l, 1) := by decide +kernel
theorem dX5_chance_28 : decode cX5_chance 28 = .ok (.lconst 0, 1) := by decide +kernel
theorem dX5_chance_29 : decode cX5_chance 29 = .ok (.lconst 1, 1) := by decide +kernel
theorem dX5_chance_30 : decode cX5_chance 30 = .ok (.invokestatic 53, 3) := by decide +kernel
theorem dX5_chance_33 : decode cX5_chance 33 = .ok (.ifCond .eq 24, 3) := by decide +kernel
theorem dX5_chance_36 : decode cX5_chance 36 = .ok (.aload_n 0, 1) := by decide +kernel
theorem dX5_chance_37 : decode cX5_chance 37 = .ok (.iload_n 1, 1) := by decide +kernel
theorem dX5_chance_38 : decode cX5_chance 38 = .ok (.invokevirtual 152, 3) := by decide +kernel
theorem dX5_chance_41 : decode cX5_chance 41 = .ok (.i2l, 1) := by decide +kernel
theorem dX5_chance_42 : decode cX5_chance 42 = .ok (.bipush 60, 2) := by decide +kernel
theorem dX5_chance_44 : decode cX5_chance 44 = .ok (.aload_n 0, 1) := by decide +kernel
theorem dX5_chance_45 : decode cX5_chance 45 = .ok (.invokevirtual 143, 3) := by decide +kernel
theorem dX5_chance_48 : decode cX5_chance 48 = .ok (.imul, 1) := by decide +kernel
theorem dX5_chance_49 : decode cX5_chance 49 = .ok (.i2l, 1) := by decide +kernel
theorem dX5_chance_50 : decode cX5_chance 50 = .ok (.iload_n 2, 1) := by decide +kernel
theorem dX5_chance_51 : decode cX5_chance 51 = .ok (.invokestatic 155, 3) := by decide +kernel
theorem dX5_chance_54 : decode cX5_chance 54 = .ok (.goto 6, 3) := by decide +kernel
theorem dX5_chance_57 : decode cX5_chance 57 = .ok (.ldc2_w 159, 3) := by decide +kernel
theorem dX5_chance_60 : decode cX5_chance 60 = .ok (.lreturn, 1) := by decide +kernel
set_option maxRecDepth 20000 in
theorem ggX5_findStand_X5_sixtieths : GoodIn wsX5_findStand wsX5_sixtieths := goodIn_r _ [8, 9, 10, 11, 12, 13, 7, 14, 15, 16, 17, 18, 19, 20, 21, 22, 23, 1, 24, 25, 26, 27, 28, 29, 30, 31, 32, 33, 34, 35, 36, 37, 38, 39, 40, 41, 42, 43, 44, 45, 46, 47, 48, 49, 50, 51, 52, 53, 54, 55, 56, 57, 58, 59, 60, 61, 62, 63, 64, 65, 66] (by decide +kernel) (by decide +kernel)
set_option maxRecDepth 20000 in
theorem gX5_findStand_X5_sixtieths : GoodIn wsX5_findStand (wsV RX5 152 RX5 yX5_sixtieths wsX5_sixtieths) := goodIn_app (goodIn_of _ (by decide +kernel)) ggX5_findStand_X5_sixtieths
theorem dX5_findStand_0 : decode cX5_findStand 0 = .ok (.aload_n 0, 1) := by decide +kernel
theorem dX5_findStand_1 : decode cX5_findStand 1 = .ok (.getfield 7, 3) := by decide +kernel
theorem dX5_findStand_4 : decode cX5_findStand 4 = .ok (.iload_n 1, 1) := by decide +kernel
theorem dX5_findStand_5 : decode cX5_findStand 5 = .ok (.iaload, 1) := by decide +kernel
theorem dX5_findStand_6 : decode cX5_findStand 6 = .ok (.istore_n 2, 1) := by decide +kernel
theorem dX5_findStand_7 : decode cX5_findStand 7 = .ok (.aload_n 0, 1) := by decide +kernel
theorem dX5_findStand_8 : decode cX5_findStand 8 = .ok (.bipush (-6), 2) := by decide +kernel
theorem dX5_findStand_10 : decode cX5_findStand 10 = .ok (.putfield 161, 3) := by decide +kernel
theorem dX5_findStand_13 : decode cX5_findStand 13 = .ok (.aload_n 0, 1) := by decide +kernel
theorem dX5_findStand_14 : decode cX5_findStand 14 = .ok (.iconst (-1), 1) := by decide +kernel
theorem dX5_findStand_15 : decode cX5_findStand 15 = .ok (.putfield 164, 3) := by decide +kernel
theorem dX5_findStand_18 : decode cX5_findStand 18 = .ok (.iconst 0, 1) := by decide +kernel
theorem dX5_findStand_19 : decode cX5_findStand 19 = .ok (.istore_n 3, 1) := by decide +kernel
theorem dX5_findStand_20 : decode cX5_findStand 20 = .ok (.iload_n 3, 1) := by decide +kernel
theorem dX5_findStand_21 : decode cX5_findStand 21 = .ok (.bipush 10, 2) := by decide +kernel
theorem dX5_findStand_23 : decode cX5_findStand 23 = .ok (.if_icmp .ge 66, 3) := by decide +kernel
theorem dX5_findStand_26 : decode cX5_findStand 26 = .ok (.aload_n 0, 1) := by decide +kernel
theorem dX5_findStand_27 : decode cX5_findStand 27 = .ok (.getfield 7, 3) := by decide +kernel
theorem dX5_findStand_30 : decode cX5_findStand 30 = .ok (.iload_n 1, 1) := by decide +kernel
theorem dX5_findStand_31 : decode cX5_findStand 31 = .ok (.iload_n 3, 1) := by decide +kernel
theorem dX5_findStand_32 : decode cX5_findStand 32 = .ok (.iastore, 1) := by decide +kernel
theorem dX5_findStand_33 : decode cX5_findStand 33 = .ok (.aload_n 0, 1) := by decide +kernel
theorem dX5_findStand_34 : decode cX5_findStand 34 = .ok (.iload_n 1, 1) := by decide +kernel
theorem dX5_findStand_35 : decode cX5_findStand 35 = .ok (.invokevirtual 152, 3) := by decide +kernel
theorem dX5_findStand_38 : decode cX5_findStand 38 = .ok (.istore 4, 2) := by decide +kernel
theorem dX5_findStand_40 : decode cX5_findStand 40 = .ok (.aload_n 0, 1) := by decide +kernel
theorem dX5_findStand_41 : decode cX5_findStand 41 = .ok (.iload 4, 2) := by decide +kernel
theorem dX5_findStand_43 : decode cX5_findStand 43 = .ok (.aload_n 0, 1) := by decide +kernel
theorem dX5_findStand_44 : decode cX5_findStand 44 = .ok (.getfield 164, 3) := by decide +kernel
theorem dX5_findStand_47 : decode cX5_findStand 47 = .ok (.if_icmp .le 7, 3) := by decide +kernel
theorem dX5_findStand_50 : decode cX5_findStand 50 = .ok (.iload_n 3, 1) := by decide +kernel
theorem dX5_findStand_51 : decode cX5_findStand 51 = .ok (.goto 7, 3) := by decide +kernel
theorem dX5_findStand_54 : decode cX5_findStand 54 = .ok (.aload_n 0, 1) := by decide +kernel
theorem dX5_findStand_55 : decode cX5_findStand 55 = .ok (.getfield 161, 3) := by decide +kernel
theorem dX5_findStand_58 : decode cX5_findStand 58 = .ok (.putfield 161, 3) := by decide +kernel
theorem dX5_findStand_61 : decode cX5_findStand 61 = .ok (.aload_n 0, 1) := by decide +kernel
theorem dX5_findStand_62 : decode cX5_findStand 62 = .ok (.iload 4, 2) := by decide +kernel
theorem dX5_findStand_64 : decode cX5_findStand 64 = .ok (.aload_n 0, 1) := by decide +kernel
theorem dX5_findStand_65 : decode cX5_findStand 65 = .ok (.getfield 164, 3) := by decide +kernel
theorem dX5_findStand_68 : decode cX5_findStand 68 = .ok (.if_icmp .le 8, 3) := by decide +kernel
theorem dX5_findStand_71 : decode cX5_findStand 71 = .ok (.iload 4, 2) := by decide +kernel
theorem dX5_findStand_73 : decode cX5_findStand 73 = .ok (.goto 7, 3) := by decide +kernel
theorem dX5_findStand_76 : decode cX5_findStand 76 = .ok (.aload_n 0, 1) := by decide +kernel
theorem dX5_findStand_77 : decode cX5_findStand 77 = .ok (.getfield 164, 3) := by decide +kernel
theorem dX5_findStand_80 : decode cX5_findStand 80 = .ok (.putfield 164, 3) := by decide +kernel
theorem dX5_findStand_83 : decode cX5_findStand 83 = .ok (.iinc 3 1, 3) := by decide +kernel
theorem dX5_findStand_86 : decode cX5_findStand 86 = .ok (.goto (-66), 3) := by decide +kernel
theorem dX5_findStand_89 : decode cX5_findStand 89 = .ok (.aload_n 0, 1) := by decide +kernel
theorem dX5_findStand_90 : decode cX5_findStand 90 = .ok (.getfield 7, 3) := by decide +kernel
theorem dX5_findStand_93 : decode cX5_findStand 93 = .ok (.iload_n 1, 1) := by decide +kernel
theorem dX5_findStand_94 : decode cX5_findStand 94 = .ok (.iload_n 2, 1) := by decide +kernel
theorem dX5_findStand_95 : decode cX5_findStand 95 = .ok (.iastore, 1) := by decide +kernel
theorem dX5_findStand_96 : decode cX5_findStand 96 = .ok (.return_, 1) := by decide +kernel
set_option maxRecDepth 20000 in
theorem ggX5_best_X5_isThere : GoodIn wsX5_best wsX5_isThere := goodIn_r _ [6, 7, 8, 9, 5, 10, 11, 12, 13, 14, 47, 48, 49, 50, 51, 52, 53, 54, 55, 56, 57, 58, 59, 60, 61, 62, 63, 64, 65, 66, 67, 68, 69, 70] (by decide +kernel) (by decide +kernel)
set_option maxRecDepth 20000 in
theorem gX5_best_X5_isThere : GoodIn wsX5_best (wsV RX5 76 RX5 yX5_isThere wsX5_isThere) := goodIn_app (goodIn_of _ (by decide +kernel)) ggX5_best_X5_isThere
set_option maxRecDepth 20000 in
theorem ggX5_best_X5_findStand : GoodIn wsX5_best wsX5_findStand := goodIn_r _ [18, 19, 1, 20, 21, 22, 23, 5, 24, 25, 26, 27, 28, 29, 30, 31, 32, 33, 34, 35, 36, 37, 38, 39, 40, 41, 42, 43, 2, 3, 4, 6, 7, 8, 9, 10, 11, 12, 13, 14, 44, 45, 46, 47, 48, 49, 50, 51, 52, 53, 54, 55, 56, 57, 58, 59, 60, 61, 62, 63, 64, 65, 66, 67, 68, 69, 70] (by decide +kernel) (by decide +kernel)
set_option maxRecDepth 20000 in
theorem gX5_best_X5_findStand : GoodIn wsX5_best (wsV RX5 167 RX5 yX5_findStand wsX5_findStand) := goodIn_app (goodIn_of _ (by decide +kernel)) ggX5_best_X5_findStand
theorem dX5_best_0 : decode cX5_best 0 = .ok (.aload_n 0, 1) := by decide +kernel
theorem dX5_best_1 : decode cX5_best 1 = .ok (.iload_n 1, 1) := by decide +kernel
theorem dX5_best_2 : decode cX5_best 2 = .ok (.invokevirtual 76, 3) := by decide +kernel
theorem dX5_best_5 : decode cX5_best 5 = .ok (.ifCond .ne 5, 3) := by decide +kernel
theorem dX5_best_8 : decode cX5_best 8 = .ok (.iconst (-1), 1) := by decide +kernel
theorem dX5_best_9 : decode cX5_best 9 = .ok (.ireturn, 1) := by decide +kernel
theorem dX5_best_10 : decode cX5_best 10 = .ok (.aload_n 0, 1) := by decide +kernel
theorem dX5_best_11 : decode cX5_best 11 = .ok (.iload_n 1, 1) := by decide +kernel
theorem dX5_best_12 : decode cX5_best 12 = .ok (.invokevirtual 167, 3) := by decide +kernel
theorem dX5_best_15 : decode cX5_best 15 = .ok (.aload_n 0, 1) := by decide +kernel
theorem dX5_best_16 : decode cX5_best 16 = .ok (.getfield 161, 3) := by decide +kernel
theorem dX5_best_19 : decode cX5_best 19 = .ok (.ireturn, 1) := by decide +kernel
set_option maxRecDepth 20000 in
theorem ggX5_bestChance_X5_isThere : GoodIn wsX5_bestChance wsX5_isThere := goodIn_r _ [8, 9, 10, 11, 7, 12, 13, 14, 15, 16, 56, 57, 58, 59, 60, 61, 62, 63, 64, 65, 66, 67, 68, 69, 70, 71, 72, 73, 74, 75, 76, 77, 78, 79] (by decide +kernel) (by decide +kernel)
set_option maxRecDepth 20000 in
theorem gX5_bestChance_X5_isThere : GoodIn wsX5_bestChance (wsV RX5 76 RX5 yX5_isThere wsX5_isThere) := goodIn_app (goodIn_of _ (by decide +kernel)) ggX5_bestChance_X5_isThere
set_option maxRecDepth 20000 in
theorem ggX5_bestChance_X5_in : GoodIn wsX5_bestChance wsX5_in := goodIn_r _ [16] (by decide +kernel) (by decide +kernel)
set_option maxRecDepth 20000 in
theorem gX5_bestChance_X5_in : GoodIn wsX5_bestChance (va_wsS RX5 53 yX5_in wsX5_in) := goodIn_app (goodIn_of _ (by decide +kernel)) ggX5_bestChance_X5_in
set_option maxRecDepth 20000 in
theorem ggX5_bestChance_X5_findStand : GoodIn wsX5_bestChance wsX5_findStand := goodIn_r _ [20, 21, 22, 3, 23, 24, 25, 7, 26, 27, 28, 29, 30, 31, 32, 33, 34, 35, 36, 37, 38, 39, 40, 41, 42, 43, 44, 45, 4, 5, 6, 8, 9, 10, 11, 12, 13, 14, 15, 16, 46, 47, 48, 56, 57, 58, 59, 60, 61, 62, 63, 64, 65, 66, 67, 68, 69, 70, 71, 72, 73, 74, 75, 76, 77, 78, 79] (by decide +kernel) (by decide +kernel)
set_option maxRecDepth 20000 in
theorem gX5_bestChance_X5_findStand : GoodIn wsX5_bestChance (wsV RX5 167 RX5 yX5_findStand wsX5_findStand) := goodIn_app (goodIn_of _ (by decide +kernel)) ggX5_bestChance_X5_findStand
set_option maxRecDepth 20000 in
theorem ggX5_bestChance_X5_weights : GoodIn wsX5_bestChance wsX5_weights := goodIn_r _ [52, 28, 56, 57, 58, 59, 60, 61, 62, 63, 64, 65, 66, 67, 68, 69, 70, 71, 72, 73, 74, 75, 76, 77, 78, 79] (by decide +kernel) (by decide +kernel)
set_option maxRecDepth 20000 in
theorem gX5_bestChance_X5_weights : GoodIn wsX5_bestChance (wsV RX5 143 RX5 yX5_weights wsX5_weights) := goodIn_app (goodIn_of _ (by decide +kernel)) ggX5_bestChance_X5_weights
set_option maxRecDepth 20000 in
theorem ggX5_bestChance_X5_lowest : GoodIn wsX5_bestChance wsX5_lowest := goodIn_r _ [55] (by decide +kernel) (by decide +kernel)
set_option maxRecDepth 20000 in
theorem gX5_bestChance_X5_lowest : GoodIn wsX5_bestChance (va_wsS RX5 155 yX5_lowest wsX5_lowest) := goodIn_app (goodIn_of _ (by decide +kernel)) ggX5_bestChance_X5_lowest
theorem dX5_bestChance_0 : decode cX5_bestChance 0 = .ok (.aload_n 0, 1) := by decide +kernel
theorem dX5_bestChance_1 : decode cX5_bestChance 1 = .ok (.iload_n 1, 1) := by decide +kernel
theorem dX5_bestChance_2 : decode cX5_bestChance 2 = .ok (.invokevirtual 76, 3) := by decide +kernel
theorem dX5_bestChance_5 : decode cX5_bestChance 5 = .ok (.ifCond .ne 7, 3) := by decide +kernel
theorem dX5_bestChance_8 : decode cX5_bestChance 8 = .ok (.ldc2_w 150, 3) := by decide +kernel
theorem dX5_bestChance_11 : decode cX5_bestChance 11 = .ok (.lreturn, 1) := by decide +kernel
theorem dX5_bestChance_12 : decode cX5_bestChance 12 = .ok (.iload_n 2, 1) := by decide +kernel
theorem dX5_bestChance_13 : decode cX5_bestChance 13 = .ok (.i2l, 1) := by decide +kernel
theorem dX5_bestChance_14 : decode cX5_bestChance 14 = .ok (.lconst 0, 1) := by decide +kernel
theorem dX5_bestChance_15 : decode cX5_bestChance 15 = .ok (.lconst 1, 1) := by decide +kernel
theorem dX5_bestChance_16 : decode cX5_bestChance 16 = .ok (.invokestatic 53, 3) := by decide +kernel
theorem dX5_bestChance_19 : decode cX5_bestChance 19 = .ok (.ifCond .ne 7, 3) := by decide +kernel
theorem dX5_bestChance_22 : decode cX5_bestChance 22 = .ok (.ldc2_w 159, 3) := by decide +kernel
theorem dX5_bestChance_25 : decode cX5_bestChance 25 = .ok (.lreturn, 1) := by decide +kernel
theorem dX5_bestChance_26 : decode cX5_bestChance 26 = .ok (.aload_n 0, 1) := by decide +kernel
theorem dX5_bestChance_27 : decode cX5_bestChance 27 = .ok (.iload_n 1, 1) := by decide +kernel
theorem dX5_bestChance_28 : decode cX5_bestChance 28 = .ok (.invokevirtual 167, 3) := by decide +kernel
theorem dX5_bestChance_31 : decode cX5_bestChance 31 = .ok (.aload_n 0, 1) := by decide +kernel
theorem dX5_bestChance_32 : decode cX5_bestChance 32 = .ok (.getfield 164, 3) := by decide +kernel
theorem dX5_bestChance_35 : decode cX5_bestChance 35 = .ok (.i2l, 1) := by decide +kernel
theorem dX5_bestChance_36 : decode cX5_bestChance 36 = .ok (.bipush 60, 2) := by decide +kernel
theorem dX5_bestChance_38 : decode cX5_bestChance 38 = .ok (.aload_n 0, 1) := by decide +kernel
theorem dX5_bestChance_39 : decode cX5_bestChance 39 = .ok (.invokevirtual 143, 3) := by decide +kernel
theorem dX5_bestChance_42 : decode cX5_bestChance 42 = .ok (.imul, 1) := by decide +kernel
theorem dX5_bestChance_43 : decode cX5_bestChance 43 = .ok (.i2l, 1) := by decide +kernel
theorem dX5_bestChance_44 : decode cX5_bestChance 44 = .ok (.iload_n 2, 1) := by decide +kernel
theorem dX5_bestChance_45 : decode cX5_bestChance 45 = .ok (.invokestatic 155, 3) := by decide +kernel
theorem dX5_bestChance_48 : decode cX5_bestChance 48 = .ok (.lreturn, 1) := by decide +kernel
theorem dX5_keepPlaces_0 : decode cX5_keepPlaces 0 = .ok (.iconst 0, 1) := by decide +kernel
theorem dX5_keepPlaces_1 : decode cX5_keepPlaces 1 = .ok (.istore_n 1, 1) := by decide +kernel
theorem dX5_keepPlaces_2 : decode cX5_keepPlaces 2 = .ok (.iload_n 1, 1) := by decide +kernel
theorem dX5_keepPlaces_3 : decode cX5_keepPlaces 3 = .ok (.bipush 6, 2) := by decide +kernel
theorem dX5_keepPlaces_5 : decode cX5_keepPlaces 5 = .ok (.if_icmp .ge 21, 3) := by decide +kernel
theorem dX5_keepPlaces_8 : decode cX5_keepPlaces 8 = .ok (.aload_n 0, 1) := by decide +kernel
theorem dX5_keepPlaces_9 : decode cX5_keepPlaces 9 = .ok (.getfield 34, 3) := by decide +kernel
theorem dX5_keepPlaces_12 : decode cX5_keepPlaces 12 = .ok (.iload_n 1, 1) := by decide +kernel
theorem dX5_keepPlaces_13 : decode cX5_keepPlaces 13 = .ok (.aload_n 0, 1) := by decide +kernel
theorem dX5_keepPlaces_14 : decode cX5_keepPlaces 14 = .ok (.getfield 7, 3) := by decide +kernel
theorem dX5_keepPlaces_17 : decode cX5_keepPlaces 17 = .ok (.iload_n 1, 1) := by decide +kernel
theorem dX5_keepPlaces_18 : decode cX5_keepPlaces 18 = .ok (.iaload, 1) := by decide +kernel
theorem dX5_keepPlaces_19 : decode cX5_keepPlaces 19 = .ok (.iastore, 1) := by decide +kernel
theorem dX5_keepPlaces_20 : decode cX5_keepPlaces 20 = .ok (.iinc 1 1, 3) := by decide +kernel
theorem dX5_keepPlaces_23 : decode cX5_keepPlaces 23 = .ok (.goto (-21), 3) := by decide +kernel
theorem dX5_keepPlaces_26 : decode cX5_keepPlaces 26 = .ok (.return_, 1) := by decide +kernel
theorem dX5_putPlaces_0 : decode cX5_putPlaces 0 = .ok (.iconst 0, 1) := by decide +kernel
theorem dX5_putPlaces_1 : decode cX5_putPlaces 1 = .ok (.istore_n 1, 1) := by decide +kernel
theorem dX5_putPlaces_2 : decode cX5_putPlaces 2 = .ok (.iload_n 1, 1) := by decide +kernel
theorem dX5_putPlaces_3 : decode cX5_putPlaces 3 = .ok (.bipush 6, 2) := by decide +kernel
theorem dX5_putPlaces_5 : decode cX5_putPlaces 5 = .ok (.if_icmp .ge 21, 3) := by decide +kernel
theorem dX5_putPlaces_8 : decode cX5_putPlaces 8 = .ok (.aload_n 0, 1) := by decide +kernel
theorem dX5_putPlaces_9 : decode cX5_putPlaces 9 = .ok (.getfield 7, 3) := by decide +kernel
theorem dX5_putPlaces_12 : decode cX5_putPlaces 12 = .ok (.iload_n 1, 1) := by decide +kernel
theorem dX5_putPlaces_13 : decode cX5_putPlaces 13 = .ok (.aload_n 0, 1) := by decide +kernel
theorem dX5_putPlaces_14 : decode cX5_putPlaces 14 = .ok (.getfield 34, 3) := by decide +kernel
theorem dX5_putPlaces_17 : decode cX5_putPlaces 17 = .ok (.iload_n 1, 1) := by decide +kernel
theorem dX5_putPlaces_18 : decode cX5_putPlaces 18 = .ok (.iaload, 1) := by decide +kernel
theorem dX5_putPlaces_19 : decode cX5_putPlaces 19 = .ok (.iastore, 1) := by decide +kernel
theorem dX5_putPlaces_20 : decode cX5_putPlaces 20 = .ok (.iinc 1 1, 3) := by decide +kernel
theorem dX5_putPlaces_23 : decode cX5_putPlaces 23 = .ok (.goto (-21), 3) := by decide +kernel
theorem dX5_putPlaces_26 : decode cX5_putPlaces 26 = .ok (.return_, 1) := by decide +kernel
set_option maxRecDepth 20000 in
theorem ggX5_layPlaces_X5_isThere : GoodIn wsX5_layPlaces wsX5_isThere := goodIn_r _ [6, 7, 8, 9, 5, 10, 11, 12, 13, 14, 15, 16, 17, 18, 19, 20, 21, 22, 23, 24, 25, 26, 27, 28, 29, 30, 31, 32, 33, 34, 35, 36, 37, 38] (by decide +kernel) (by decide +kernel)
set_option maxRecDepth 20000 in
theorem gX5_layPlaces_X5_isThere : GoodIn wsX5_layPlaces (wsV RX5 76 RX5 yX5_isThere wsX5_isThere) := goodIn_app (goodIn_of _ (by decide +kernel)) ggX5_layPlaces_X5_isThere
theorem dX5_layPlaces_0 : decode cX5_layPlaces 0 = .ok (.iload_n 1, 1) := by decide +kernel
theorem dX5_layPlaces_1 : decode cX5_layPlaces 1 = .ok (.istore_n 2, 1) := by decide +kernel
theorem dX5_layPlaces_2 : decode cX5_layPlaces 2 = .ok (.iconst 5, 1) := by decide +kernel
theorem dX5_layPlaces_3 : decode cX5_layPlaces 3 = .ok (.istore_n 3, 1) := by decide +kernel
theorem dX5_layPlaces_4 : decode cX5_layPlaces 4 = .ok (.iload_n 3, 1) := by decide +kernel
theorem dX5_layPlaces_5 : decode cX5_layPlaces 5 = .ok (.ifCond .lt 32, 3) := by decide +kernel
theorem dX5_layPlaces_8 : decode cX5_layPlaces 8 = .ok (.aload_n 0, 1) := by decide +kernel
theorem dX5_layPlaces_9 : decode cX5_layPlaces 9 = .ok (.iload_n 3, 1) := by decide +kernel
theorem dX5_layPlaces_10 : decode cX5_layPlaces 10 = .ok (.invokevirtual 76, 3) := by decide +kernel
theorem dX5_layPlaces_13 : decode cX5_layPlaces 13 = .ok (.ifCond .eq 18, 3) := by decide +kernel
theorem dX5_layPlaces_16 : decode cX5_layPlaces 16 = .ok (.aload_n 0, 1) := by decide +kernel
theorem dX5_layPlaces_17 : decode cX5_layPlaces 17 = .ok (.getfield 7, 3) := by decide +kernel
theorem dX5_layPlaces_20 : decode cX5_layPlaces 20 = .ok (.iload_n 3, 1) := by decide +kernel
theorem dX5_layPlaces_21 : decode cX5_layPlaces 21 = .ok (.iload_n 2, 1) := by decide +kernel
theorem dX5_layPlaces_22 : decode cX5_layPlaces 22 = .ok (.bipush 10, 2) := by decide +kernel
theorem dX5_layPlaces_24 : decode cX5_layPlaces 24 = .ok (.irem, 1) := by decide +kernel
theorem dX5_layPlaces_25 : decode cX5_layPlaces 25 = .ok (.iastore, 1) := by decide +kernel
theorem dX5_layPlaces_26 : decode cX5_layPlaces 26 = .ok (.iload_n 2, 1) := by decide +kernel
theorem dX5_layPlaces_27 : decode cX5_layPlaces 27 = .ok (.bipush 10, 2) := by decide +kernel
theorem dX5_layPlaces_29 : decode cX5_layPlaces 29 = .ok (.idiv, 1) := by decide +kernel
theorem dX5_layPlaces_30 : decode cX5_layPlaces 30 = .ok (.istore_n 2, 1) := by decide +kernel
theorem dX5_layPlaces_31 : decode cX5_layPlaces 31 = .ok (.iinc 3 (-1), 3) := by decide +kernel
theorem dX5_layPlaces_34 : decode cX5_layPlaces 34 = .ok (.goto (-30), 3) := by decide +kernel
theorem dX5_layPlaces_37 : decode cX5_layPlaces 37 = .ok (.return_, 1) := by decide +kernel
set_option maxRecDepth 20000 in
theorem ggX5_areAtRest_X5_isThere : GoodIn wsX5_areAtRest wsX5_isThere := goodIn_r _ [6, 7, 8, 9, 5, 10, 11, 12, 13, 14, 47, 48, 49, 50, 51, 52, 53, 54, 55, 56, 57, 58, 59, 60, 61, 62, 63, 64, 65, 66, 67, 68, 69, 70] (by decide +kernel) (by decide +kernel)
set_option maxRecDepth 20000 in
theorem gX5_areAtRest_X5_isThere : GoodIn wsX5_areAtRest (wsV RX5 76 RX5 yX5_isThere wsX5_isThere) := goodIn_app (goodIn_of _ (by decide +kernel)) ggX5_areAtRest_X5_isThere
set_option maxRecDepth 20000 in
theorem ggX5_areAtRest_X5_sixtieths : GoodIn wsX5_areAtRest wsX5_sixtieths := goodIn_r _ [18, 19, 20, 21, 22, 23, 5, 24, 25, 26, 27, 28, 29, 30, 31, 32, 33, 34, 35, 36, 37, 38, 2, 3, 4, 6, 7, 8, 9, 10, 11, 12, 13, 14, 39, 40, 41, 47, 48, 49, 50, 51, 52, 53, 54, 55, 56, 57, 58, 59, 60, 61, 62, 63, 64, 65, 66, 67, 68, 69, 70] (by decide +kernel) (by decide +kernel)
set_option maxRecDepth 20000 in
theorem gX5_areAtRest_X5_sixtieths : GoodIn wsX5_areAtRest (wsV RX5 152 RX5 yX5_sixtieths wsX5_sixtieths) := goodIn_app (goodIn_of _ (by decide +kernel)) ggX5_areAtRest_X5_sixtieths
set_option maxRecDepth 20000 in
theorem ggX5_areAtRest_X5_findStand : GoodIn wsX5_areAtRest wsX5_findStand := goodIn_r _ [45, 34, 46, 1, 15, 16, 17, 5, 18, 19, 20, 21, 22, 23, 24, 25, 26, 27, 28, 29, 30, 31, 32, 33, 35, 36, 37, 38, 2, 3, 4, 6, 7, 8, 9, 10, 11, 12, 13, 14, 39, 40, 41, 47, 48, 49, 50, 51, 52, 53, 54, 55, 56, 57, 58, 59, 60, 61, 62, 63, 64, 65, 66, 67, 68, 69, 70] (by decide +kernel) (by decide +kernel)
set_option maxRecDepth 20000 in
theorem gX5_areAtRest_X5_findStand : GoodIn wsX5_areAtRest (wsV RX5 167 RX5 yX5_findStand wsX5_findStand) := goodIn_app (goodIn_of _ (by decide +kernel)) ggX5_areAtRest_X5_findStand
theorem dX5_areAtRest_0 : decode cX5_areAtRest 0 = .ok (.iconst 0, 1) := by decide +kernel
theorem dX5_areAtRest_1 : decode cX5_areAtRest 1 = .ok (.istore_n 1, 1) := by decide +kernel
theorem dX5_areAtRest_2 : decode cX5_areAtRest 2 = .ok (.iload_n 1, 1) := by decide +kernel
theorem dX5_areAtRest_3 : decode cX5_areAtRest 3 = .ok (.bipush 6, 2) := by decide +kernel
theorem dX5_areAtRest_5 : decode cX5_areAtRest 5 = .ok (.if_icmp .ge 38, 3) := by decide +kernel
theorem dX5_areAtRest_8 : decode cX5_areAtRest 8 = .ok (.aload_n 0, 1) := by decide +kernel
theorem dX5_areAtRest_9 : decode cX5_areAtRest 9 = .ok (.iload_n 1, 1) := by decide +kernel
theorem dX5_areAtRest_10 : decode cX5_areAtRest 10 = .ok (.invokevirtual 76, 3) := by decide +kernel
theorem dX5_areAtRest_13 : decode cX5_areAtRest 13 = .ok (.ifCond .eq 24, 3) := by decide +kernel
theorem dX5_areAtRest_16 : decode cX5_areAtRest 16 = .ok (.aload_n 0, 1) := by decide +kernel
theorem dX5_areAtRest_17 : decode cX5_areAtRest 17 = .ok (.iload_n 1, 1) := by decide +kernel
theorem dX5_areAtRest_18 : decode cX5_areAtRest 18 = .ok (.invokevirtual 152, 3) := by decide +kernel
theorem dX5_areAtRest_21 : decode cX5_areAtRest 21 = .ok (.istore_n 2, 1) := by decide +kernel
theorem dX5_areAtRest_22 : decode cX5_areAtRest 22 = .ok (.aload_n 0, 1) := by decide +kernel
theorem dX5_areAtRest_23 : decode cX5_areAtRest 23 = .ok (.iload_n 1, 1) := by decide +kernel
theorem dX5_areAtRest_24 : decode cX5_areAtRest 24 = .ok (.invokevirtual 167, 3) := by decide +kernel
theorem dX5_areAtRest_27 : decode cX5_areAtRest 27 = .ok (.aload_n 0, 1) := by decide +kernel
theorem dX5_areAtRest_28 : decode cX5_areAtRest 28 = .ok (.getfield 164, 3) := by decide +kernel
theorem dX5_areAtRest_31 : decode cX5_areAtRest 31 = .ok (.iload_n 2, 1) := by decide +kernel
theorem dX5_areAtRest_32 : decode cX5_areAtRest 32 = .ok (.if_icmp .le 5, 3) := by decide +kernel
theorem dX5_areAtRest_35 : decode cX5_areAtRest 35 = .ok (.iconst 0, 1) := by decide +kernel
theorem dX5_areAtRest_36 : decode cX5_areAtRest 36 = .ok (.ireturn, 1) := by decide +kernel
theorem dX5_areAtRest_37 : decode cX5_areAtRest 37 = .ok (.iinc 1 1, 3) := by decide +kernel
theorem dX5_areAtRest_40 : decode cX5_areAtRest 40 = .ok (.goto (-38), 3) := by decide +kernel
theorem dX5_areAtRest_43 : decode cX5_areAtRest 43 = .ok (.iconst 1, 1) := by decide +kernel
theorem dX5_areAtRest_44 : decode cX5_areAtRest 44 = .ok (.ireturn, 1) := by decide +kernel
set_option maxRecDepth 20000 in
theorem ggX5_rests_X5_ones : GoodIn wsX5_rests wsX5_ones := goodIn_r _ [5] (by decide +kernel) (by decide +kernel)
set_option maxRecDepth 20000 in
theorem gX5_rests_X5_ones : GoodIn wsX5_rests (va_wsS RX5 72 yX5_ones wsX5_ones) := goodIn_app (goodIn_of _ (by decide +kernel)) ggX5_rests_X5_ones
set_option maxRecDepth 20000 in
theorem ggX5_rests_X5_keepPlaces : GoodIn wsX5_rests wsX5_keepPlaces := goodIn_r _ [9, 10, 11, 64, 65, 66, 67, 68, 69, 70, 71, 72, 73, 74, 75, 76, 77, 78, 79, 80, 81, 82, 83, 84, 85, 86, 87] (by decide +kernel) (by decide +kernel)
set_option maxRecDepth 20000 in
theorem gX5_rests_X5_keepPlaces : GoodIn wsX5_rests (wsV RX5 170 RX5 yX5_keepPlaces wsX5_keepPlaces) := goodIn_app (goodIn_of _ (by decide +kernel)) ggX5_rests_X5_keepPlaces
set_option maxRecDepth 20000 in
theorem ggX5_rests_X5_layPlaces : GoodIn wsX5_rests wsX5_layPlaces := goodIn_r _ [15, 11, 16, 17, 18, 4, 19, 1, 20, 21, 22, 23, 24, 25, 26, 64, 65, 66, 67, 68, 69, 70, 71, 72, 73, 74, 75, 76, 77, 78, 79, 80, 81, 82, 83, 84, 85, 86, 87] (by decide +kernel) (by decide +kernel)
set_option maxRecDepth 20000 in
theorem gX5_rests_X5_layPlaces : GoodIn wsX5_rests (wsV RX5 173 RX5 yX5_layPlaces wsX5_layPlaces) := goodIn_app (goodIn_of _ (by decide +kernel)) ggX5_rests_X5_layPlaces
set_option maxRecDepth 20000 in
theorem ggX5_rests_X5_areAtRest : GoodIn wsX5_rests wsX5_areAtRest := goodIn_r _ [30, 31, 16, 17, 18, 4, 19, 1, 20, 21, 22, 23, 24, 25, 26, 32, 33, 34, 35, 36, 37, 38, 39, 40, 41, 42, 43, 44, 45, 46, 47, 48, 49, 50, 11, 51, 52, 53, 54, 2, 3, 5, 55, 56, 57, 58, 59, 64, 65, 66, 67, 68, 69, 70, 71, 72, 73, 74, 75, 76, 77, 78, 79, 80, 81, 82, 83, 84, 85, 86, 87] (by decide +kernel) (by decide +kernel)
set_option maxRecDepth 20000 in
theorem gX5_rests_X5_areAtRest : GoodIn wsX5_rests (wsV RX5 176 RX5 yX5_areAtRest wsX5_areAtRest) := goodIn_app (goodIn_of _ (by decide +kernel)) ggX5_rests_X5_areAtRest
set_option maxRecDepth 20000 in
theorem ggX5_rests_X5_putPlaces : GoodIn wsX5_rests wsX5_putPlaces := goodIn_r _ [63, 11, 10, 64, 65, 66, 67, 68, 69, 70, 71, 72, 73, 74, 75, 76, 77, 78, 79, 80, 81, 82, 83, 84, 85, 86, 87] (by decide +kernel) (by decide +kernel)
set_option maxRecDepth 20000 in
theorem gX5_rests_X5_putPlaces : GoodIn wsX5_rests (wsV RX5 180 RX5 yX5_putPlaces wsX5_putPlaces) := goodIn_app (goodIn_of _ (by decide +kernel)) ggX5_rests_X5_putPlaces
theorem dX5_rests_0 : decode cX5_rests 0 = .ok (.aload_n 0, 1) := by decide +kernel
theorem dX5_rests_1 : decode cX5_rests 1 = .ok (.getfield 63, 3) := by decide +kernel
theorem dX5_rests_4 : decode cX5_rests 4 = .ok (.invokestatic 72, 3) := by decide +kernel
theorem dX5_rests_7 : decode cX5_rests 7 = .ok (.istore_n 2, 1) := by decide +kernel
theorem dX5_rests_8 : decode cX5_rests 8 = .ok (.iload_n 2, 1) := by decide +kernel
theorem dX5_rests_9 : decode cX5_rests 9 = .ok (.iconst 3, 1) := by decide +kernel
theorem dX5_rests_10 : decode cX5_rests 10 = .ok (.if_icmp .le 6, 3) := by decide +kernel
theorem dX5_rests_13 : decode cX5_rests 13 = .ok (.bipush (-4), 2) := by decide +kernel
theorem dX5_rests_15 : decode cX5_rests 15 = .ok (.ireturn, 1) := by decide +kernel
theorem dX5_rests_16 : decode cX5_rests 16 = .ok (.iload_n 2, 1) := by decide +kernel
theorem dX5_rests_17 : decode cX5_rests 17 = .ok (.ifCond .ne 7, 3) := by decide +kernel
theorem dX5_rests_20 : decode cX5_rests 20 = .ok (.iconst 1, 1) := by decide +kernel
theorem dX5_rests_21 : decode cX5_rests 21 = .ok (.goto 26, 3) := by decide +kernel
theorem dX5_rests_24 : decode cX5_rests 24 = .ok (.iload_n 2, 1) := by decide +kernel
theorem dX5_rests_25 : decode cX5_rests 25 = .ok (.iconst 1, 1) := by decide +kernel
theorem dX5_rests_26 : decode cX5_rests 26 = .ok (.if_icmp .ne 8, 3) := by decide +kernel
theorem dX5_rests_29 : decode cX5_rests 29 = .ok (.bipush 10, 2) := by decide +kernel
theorem dX5_rests_31 : decode cX5_rests 31 = .ok (.goto 16, 3) := by decide +kernel
theorem dX5_rests_34 : decode cX5_rests 34 = .ok (.iload_n 2, 1) := by decide +kernel
theorem dX5_rests_35 : decode cX5_rests 35 = .ok (.iconst 2, 1) := by decide +kernel
theorem dX5_rests_36 : decode cX5_rests 36 = .ok (.if_icmp .ne 8, 3) := by decide +kernel
theorem dX5_rests_39 : decode cX5_rests 39 = .ok (.bipush 100, 2) := by decide +kernel
theorem dX5_rests_41 : decode cX5_rests 41 = .ok (.goto 6, 3) := by decide +kernel
theorem dX5_rests_44 : decode cX5_rests 44 = .ok (.sipush 1000, 3) := by decide +kernel
theorem dX5_rests_47 : decode cX5_rests 47 = .ok (.istore_n 3, 1) := by decide +kernel
theorem dX5_rests_48 : decode cX5_rests 48 = .ok (.aload_n 0, 1) := by decide +kernel
theorem dX5_rests_49 : decode cX5_rests 49 = .ok (.invokevirtual 170, 3) := by decide +kernel
theorem dX5_rests_52 : decode cX5_rests 52 = .ok (.iconst 0, 1) := by decide +kernel
theorem dX5_rests_53 : decode cX5_rests 53 = .ok (.istore 4, 2) := by decide +kernel
theorem dX5_rests_55 : decode cX5_rests 55 = .ok (.bipush (-6), 2) := by decide +kernel
theorem dX5_rests_57 : decode cX5_rests 57 = .ok (.istore 5, 2) := by decide +kernel
theorem dX5_rests_59 : decode cX5_rests 59 = .ok (.iconst 0, 1) := by decide +kernel
theorem dX5_rests_60 : decode cX5_rests 60 = .ok (.istore 6, 2) := by decide +kernel
theorem dX5_rests_62 : decode cX5_rests 62 = .ok (.iload 6, 2) := by decide +kernel
theorem dX5_rests_64 : decode cX5_rests 64 = .ok (.iload_n 3, 1) := by decide +kernel
theorem dX5_rests_65 : decode cX5_rests 65 = .ok (.if_icmp .ge 40, 3) := by decide +kernel
theorem dX5_rests_68 : decode cX5_rests 68 = .ok (.aload_n 0, 1) := by decide +kernel
theorem dX5_rests_69 : decode cX5_rests 69 = .ok (.iload 6, 2) := by decide +kernel
theorem dX5_rests_71 : decode cX5_rests 71 = .ok (.invokevirtual 173, 3) := by decide +kernel
theorem dX5_rests_74 : decode cX5_rests 74 = .ok (.aload_n 0, 1) := by decide +kernel
theorem dX5_rests_75 : decode cX5_rests 75 = .ok (.invokevirtual 176, 3) := by decide +kernel
theorem dX5_rests_78 : decode cX5_rests 78 = .ok (.ifCond .eq 21, 3) := by decide +kernel
theorem dX5_rests_81 : decode cX5_rests 81 = .ok (.iload 4, 2) := by decide +kernel
theorem dX5_rests_83 : decode cX5_rests 83 = .ok (.iload_n 1, 1) := by decide +kernel
theorem dX5_rests_84 : decode cX5_rests 84 = .ok (.if_icmp .ne 8, 3) := by decide +kernel
theorem dX5_rests_87 : decode cX5_rests 87 = .ok (.iload 6, 2) := by decide +kernel
theorem dX5_rests_89 : decode cX5_rests 89 = .ok (.goto 5, 3) := by decide +kernel
theorem dX5_rests_92 : decode cX5_rests 92 = .ok (.iload 5, 2) := by decide +kernel
theorem dX5_rests_94 : decode cX5_rests 94 = .ok (.istore 5, 2) := by decide +kernel
theorem dX5_rests_96 : decode cX5_rests 96 = .ok (.iinc 4 1, 3) := by decide +kernel
theorem dX5_rests_99 : decode cX5_rests 99 = .ok (.iinc 6 1, 3) := by decide +kernel
theorem dX5_rests_102 : decode cX5_rests 102 = .ok (.goto (-40), 3) := by decide +kernel
theorem dX5_rests_105 : decode cX5_rests 105 = .ok (.aload_n 0, 1) := by decide +kernel
theorem dX5_rests_106 : decode cX5_rests 106 = .ok (.invokevirtual 180, 3) := by decide +kernel
theorem dX5_rests_109 : decode cX5_rests 109 = .ok (.iload_n 1, 1) := by decide +kernel
theorem dX5_rests_110 : decode cX5_rests 110 = .ok (.iconst (-1), 1) := by decide +kernel
theorem dX5_rests_111 : decode cX5_rests 111 = .ok (.if_icmp .ne 8, 3) := by decide +kernel
theorem dX5_rests_114 : decode cX5_rests 114 = .ok (.iload 4, 2) := by decide +kernel
theorem dX5_rests_116 : decode cX5_rests 116 = .ok (.goto 5, 3) := by decide +kernel
theorem dX5_rests_119 : decode cX5_rests 119 = .ok (.iload 5, 2) := by decide +kernel
theorem dX5_rests_121 : decode cX5_rests 121 = .ok (.ireturn, 1) := by decide +kernel
set_option maxRecDepth 20000 in
theorem ggX5_coup_X5_isThere : GoodIn wsX5_coup wsX5_isThere := goodIn_r _ [5, 6, 7, 8, 4, 9, 10, 11, 12, 13, 28, 29, 30, 31, 32, 33, 34, 35, 36, 37, 38, 39, 40, 41, 42, 43, 44, 45, 46, 47, 48, 49, 50, 51] (by decide +kernel) (by decide +kernel)
set_option maxRecDepth 20000 in
theorem gX5_coup_X5_isThere : GoodIn wsX5_coup (wsV RX5 76 RX5 yX5_isThere wsX5_isThere) := goodIn_app (goodIn_of _ (by decide +kernel)) ggX5_coup_X5_isThere
set_option maxRecDepth 20000 in
theorem ggX5_coup_X5_sprinkledBy : GoodIn wsX5_coup wsX5_sprinkledBy := goodIn_r _ [17, 18, 19, 20, 21, 4, 22, 23, 24, 25, 26, 27, 1, 2, 3, 5, 6, 7, 8, 9, 10, 11, 12, 13, 28, 29, 30, 31, 32, 33, 34, 35, 36, 37, 38, 39, 40, 41, 42, 43, 44, 45, 46, 47, 48, 49, 50, 51] (by decide +kernel) (by decide +kernel)
set_option maxRecDepth 20000 in
theorem gX5_coup_X5_sprinkledBy : GoodIn wsX5_coup (wsV RX5 127 RX5 yX5_sprinkledBy wsX5_sprinkledBy) := goodIn_app (goodIn_of _ (by decide +kernel)) ggX5_coup_X5_sprinkledBy
theorem dX5_coup_0 : decode cX5_coup 0 = .ok (.aload_n 0, 1) := by decide +kernel
theorem dX5_coup_1 : decode cX5_coup 1 = .ok (.iload_n 1, 1) := by decide +kernel
theorem dX5_coup_2 : decode cX5_coup 2 = .ok (.invokevirtual 76, 3) := by decide +kernel
theorem dX5_coup_5 : decode cX5_coup 5 = .ok (.ifCond .ne 5, 3) := by decide +kernel
theorem dX5_coup_8 : decode cX5_coup 8 = .ok (.iconst (-1), 1) := by decide +kernel
theorem dX5_coup_9 : decode cX5_coup 9 = .ok (.ireturn, 1) := by decide +kernel
theorem dX5_coup_10 : decode cX5_coup 10 = .ok (.iconst 0, 1) := by decide +kernel
theorem dX5_coup_11 : decode cX5_coup 11 = .ok (.istore_n 2, 1) := by decide +kernel
theorem dX5_coup_12 : decode cX5_coup 12 = .ok (.iload_n 2, 1) := by decide +kernel
theorem dX5_coup_13 : decode cX5_coup 13 = .ok (.bipush 10, 2) := by decide +kernel
theorem dX5_coup_15 : decode cX5_coup 15 = .ok (.if_icmp .ge 22, 3) := by decide +kernel
theorem dX5_coup_18 : decode cX5_coup 18 = .ok (.aload_n 0, 1) := by decide +kernel
theorem dX5_coup_19 : decode cX5_coup 19 = .ok (.iload_n 2, 1) := by decide +kernel
theorem dX5_coup_20 : decode cX5_coup 20 = .ok (.invokevirtual 127, 3) := by decide +kernel
theorem dX5_coup_23 : decode cX5_coup 23 = .ok (.iconst 1, 1) := by decide +kernel
theorem dX5_coup_24 : decode cX5_coup 24 = .ok (.iload_n 1, 1) := by decide +kernel
theorem dX5_coup_25 : decode cX5_coup 25 = .ok (.ishl, 1) := by decide +kernel
theorem dX5_coup_26 : decode cX5_coup 26 = .ok (.if_icmp .ne 5, 3) := by decide +kernel
theorem dX5_coup_29 : decode cX5_coup 29 = .ok (.iload_n 2, 1) := by decide +kernel
theorem dX5_coup_30 : decode cX5_coup 30 = .ok (.ireturn, 1) := by decide +kernel
theorem dX5_coup_31 : decode cX5_coup 31 = .ok (.iinc 2 1, 3) := by decide +kernel
theorem dX5_coup_34 : decode cX5_coup 34 = .ok (.goto (-22), 3) := by decide +kernel
theorem dX5_coup_37 : decode cX5_coup 37 = .ok (.bipush (-6), 2) := by decide +kernel
theorem dX5_coup_39 : decode cX5_coup 39 = .ok (.ireturn, 1) := by decide +kernel
set_option maxRecDepth 20000 in
theorem ggX5_quick_X5_isThere : GoodIn wsX5_quick wsX5_isThere := goodIn_r _ [7, 8, 9, 10, 6, 11, 12, 13, 14, 15, 46, 47, 48, 49, 50, 51, 52, 53, 54, 55, 56, 57, 58, 59, 60, 61, 62, 63, 64, 65, 66, 67, 68, 69] (by decide +kernel) (by decide +kernel)
set_option maxRecDepth 20000 in
theorem gX5_quick_X5_isThere : GoodIn wsX5_quick (wsV RX5 76 RX5 yX5_isThere wsX5_isThere) := goodIn_app (goodIn_of _ (by decide +kernel)) ggX5_quick_X5_isThere
set_option maxRecDepth 20000 in
theorem ggX5_quick_X5_in : GoodIn wsX5_quick wsX5_in := goodIn_r _ [15] (by decide +kernel) (by decide +kernel)
set_option maxRecDepth 20000 in
theorem gX5_quick_X5_in : GoodIn wsX5_quick (va_wsS RX5 53 yX5_in wsX5_in) := goodIn_app (goodIn_of _ (by decide +kernel)) ggX5_quick_X5_in
set_option maxRecDepth 20000 in
theorem ggX5_quick_X5_sixtieths : GoodIn wsX5_quick wsX5_sixtieths := goodIn_r _ [19, 20, 21, 22, 23, 24, 6, 25, 26, 27, 28, 29, 30, 31, 32, 33, 34, 35, 36, 37, 38, 2, 3, 4, 5, 7, 8, 9, 10, 11, 12, 13, 14, 15, 39, 40, 41, 46, 47, 48, 49, 50, 51, 52, 53, 54, 55, 56, 57, 58, 59, 60, 61, 62, 63, 64, 65, 66, 67, 68, 69] (by decide +kernel) (by decide +kernel)
set_option maxRecDepth 20000 in
theorem gX5_quick_X5_sixtieths : GoodIn wsX5_quick (wsV RX5 152 RX5 yX5_sixtieths wsX5_sixtieths) := goodIn_app (goodIn_of _ (by decide +kernel)) ggX5_quick_X5_sixtieths
set_option maxRecDepth 20000 in
theorem ggX5_quick_X5_weights : GoodIn wsX5_quick wsX5_weights := goodIn_r _ [45, 21, 46, 47, 48, 49, 50, 51, 52, 53, 54, 55, 56, 57, 58, 59, 60, 61, 62, 63, 64, 65, 66, 67, 68, 69] (by decide +kernel) (by decide +kernel)
set_option maxRecDepth 20000 in
theorem gX5_quick_X5_weights : GoodIn wsX5_quick (wsV RX5 143 RX5 yX5_weights wsX5_weights) := goodIn_app (goodIn_of _ (by decide +kernel)) ggX5_quick_X5_weights
theorem dX5_quick_0 : decode cX5_quick 0 = .ok (.aload_n 0, 1) := by decide +kernel
theorem dX5_quick_1 : decode cX5_quick 1 = .ok (.iload_n 1, 1) := by decide +kernel
theorem dX5_quick_2 : decode cX5_quick 2 = .ok (.invokevirtual 76, 3) := by decide +kernel
theorem dX5_quick_5 : decode cX5_quick 5 = .ok (.ifCond .ne 5, 3) := by decide +kernel
theorem dX5_quick_8 : decode cX5_quick 8 = .ok (.iconst (-1), 1) := by decide +kernel
theorem dX5_quick_9 : decode cX5_quick 9 = .ok (.ireturn, 1) := by decide +kernel
theorem dX5_quick_10 : decode cX5_quick 10 = .ok (.iload_n 3, 1) := by decide +kernel
theorem dX5_quick_11 : decode cX5_quick 11 = .ok (.i2l, 1) := by decide +kernel
theorem dX5_quick_12 : decode cX5_quick 12 = .ok (.lconst 1, 1) := by decide +kernel
theorem dX5_quick_13 : decode cX5_quick 13 = .ok (.ldc2_w 183, 3) := by decide +kernel
theorem dX5_quick_16 : decode cX5_quick 16 = .ok (.invokestatic 53, 3) := by decide +kernel
theorem dX5_quick_19 : decode cX5_quick 19 = .ok (.ifCond .eq 14, 3) := by decide +kernel
theorem dX5_quick_22 : decode cX5_quick 22 = .ok (.iload_n 2, 1) := by decide +kernel
theorem dX5_quick_23 : decode cX5_quick 23 = .ok (.i2l, 1) := by decide +kernel
theorem dX5_quick_24 : decode cX5_quick 24 = .ok (.lconst 0, 1) := by decide +kernel
theorem dX5_quick_25 : decode cX5_quick 25 = .ok (.iload_n 3, 1) := by decide +kernel
theorem dX5_quick_26 : decode cX5_quick 26 = .ok (.i2l, 1) := by decide +kernel
theorem dX5_quick_27 : decode cX5_quick 27 = .ok (.invokestatic 53, 3) := by decide +kernel
theorem dX5_quick_30 : decode cX5_quick 30 = .ok (.ifCond .ne 6, 3) := by decide +kernel
theorem dX5_quick_33 : decode cX5_quick 33 = .ok (.bipush (-2), 2) := by decide +kernel
theorem dX5_quick_35 : decode cX5_quick 35 = .ok (.ireturn, 1) := by decide +kernel
theorem dX5_quick_36 : decode cX5_quick 36 = .ok (.aload_n 0, 1) := by decide +kernel
theorem dX5_quick_37 : decode cX5_quick 37 = .ok (.getfield 13, 3) := by decide +kernel
theorem dX5_quick_40 : decode cX5_quick 40 = .ok (.iload_n 1, 1) := by decide +kernel
theorem dX5_quick_41 : decode cX5_quick 41 = .ok (.iaload, 1) := by decide +kernel
theorem dX5_quick_42 : decode cX5_quick 42 = .ok (.istore 4, 2) := by decide +kernel
theorem dX5_quick_44 : decode cX5_quick 44 = .ok (.bipush (-6), 2) := by decide +kernel
theorem dX5_quick_46 : decode cX5_quick 46 = .ok (.istore 5, 2) := by decide +kernel
theorem dX5_quick_48 : decode cX5_quick 48 = .ok (.iconst 0, 1) := by decide +kernel
theorem dX5_quick_49 : decode cX5_quick 49 = .ok (.istore 6, 2) := by decide +kernel
theorem dX5_quick_51 : decode cX5_quick 51 = .ok (.iload 6, 2) := by decide +kernel
theorem dX5_quick_53 : decode cX5_quick 53 = .ok (.bipush 10, 2) := by decide +kernel
theorem dX5_quick_55 : decode cX5_quick 55 = .ok (.if_icmp .ge 45, 3) := by decide +kernel
theorem dX5_quick_58 : decode cX5_quick 58 = .ok (.aload_n 0, 1) := by decide +kernel
theorem dX5_quick_59 : decode cX5_quick 59 = .ok (.getfield 13, 3) := by decide +kernel
theorem dX5_quick_62 : decode cX5_quick 62 = .ok (.iload_n 1, 1) := by decide +kernel
theorem dX5_quick_63 : decode cX5_quick 63 = .ok (.iload 6, 2) := by decide +kernel
theorem dX5_quick_65 : decode cX5_quick 65 = .ok (.iastore, 1) := by decide +kernel
theorem dX5_quick_66 : decode cX5_quick 66 = .ok (.aload_n 0, 1) := by decide +kernel
theorem dX5_quick_67 : decode cX5_quick 67 = .ok (.iload_n 1, 1) := by decide +kernel
theorem dX5_quick_68 : decode cX5_quick 68 = .ok (.invokevirtual 152, 3) := by decide +kernel
theorem dX5_quick_71 : decode cX5_quick 71 = .ok (.iload_n 3, 1) := by decide +kernel
theorem dX5_quick_72 : decode cX5_quick 72 = .ok (.imul, 1) := by decide +kernel
theorem dX5_quick_73 : decode cX5_quick 73 = .ok (.iload_n 2, 1) := by decide +kernel
theorem dX5_quick_74 : decode cX5_quick 74 = .ok (.bipush 60, 2) := by decide +kernel
theorem dX5_quick_76 : decode cX5_quick 76 = .ok (.imul, 1) := by decide +kernel
theorem dX5_quick_77 : decode cX5_quick 77 = .ok (.aload_n 0, 1) := by decide +kernel
theorem dX5_quick_78 : decode cX5_quick 78 = .ok (.invokevirtual 143, 3) := by decide +kernel
theorem dX5_quick_81 : decode cX5_quick 81 = .ok (.imul, 1) := by decide +kernel
theorem dX5_quick_82 : decode cX5_quick 82 = .ok (.if_icmp .lt 8, 3) := by decide +kernel
theorem dX5_quick_85 : decode cX5_quick 85 = .ok (.iload 6, 2) := by decide +kernel
theorem dX5_quick_87 : decode cX5_quick 87 = .ok (.goto 5, 3) := by decide +kernel
theorem dX5_quick_90 : decode cX5_quick 90 = .ok (.iload 5, 2) := by decide +kernel
theorem dX5_quick_92 : decode cX5_quick 92 = .ok (.istore 5, 2) := by decide +kernel
theorem dX5_quick_94 : decode cX5_quick 94 = .ok (.iinc 6 1, 3) := by decide +kernel
theorem dX5_quick_97 : decode cX5_quick 97 = .ok (.goto (-46), 3) := by decide +kernel
theorem dX5_quick_100 : decode cX5_quick 100 = .ok (.aload_n 0, 1) := by decide +kernel
theorem dX5_quick_101 : decode cX5_quick 101 = .ok (.getfield 13, 3) := by decide +kernel
theorem dX5_quick_104 : decode cX5_quick 104 = .ok (.iload_n 1, 1) := by decide +kernel
theorem dX5_quick_105 : decode cX5_quick 105 = .ok (.iload 4, 2) := by decide +kernel
theorem dX5_quick_107 : decode cX5_quick 107 = .ok (.iastore, 1) := by decide +kernel
theorem dX5_quick_108 : decode cX5_quick 108 = .ok (.iload 5, 2) := by decide +kernel
theorem dX5_quick_110 : decode cX5_quick 110 = .ok (.ireturn, 1) := by decide +kernel
set_option maxRecDepth 20000 in
theorem ggX5_seen_X5_in : GoodIn wsX5_seen wsX5_in := goodIn_r _ [9] (by decide +kernel) (by decide +kernel)
set_option maxRecDepth 20000 in
theorem gX5_seen_X5_in : GoodIn wsX5_seen (va_wsS RX5 53 yX5_in wsX5_in) := goodIn_app (goodIn_of _ (by decide +kernel)) ggX5_seen_X5_in
set_option maxRecDepth 20000 in
theorem ggX5_seen_X5_isPerson : GoodIn wsX5_seen wsX5_isPerson := goodIn_r _ [12, 13, 6, 7, 8, 9] (by decide +kernel) (by decide +kernel)
set_option maxRecDepth 20000 in
theorem gX5_seen_X5_isPerson : GoodIn wsX5_seen (va_wsS RX5 59 yX5_isPerson wsX5_isPerson) := goodIn_app (goodIn_of _ (by decide +kernel)) ggX5_seen_X5_isPerson
theorem dX5_seen_0 : decode cX5_seen 0 = .ok (.iload_n 1, 1) := by decide +kernel
theorem dX5_seen_1 : decode cX5_seen 1 = .ok (.i2l, 1) := by decide +kernel
theorem dX5_seen_2 : decode cX5_seen 2 = .ok (.lconst 1, 1) := by decide +kernel
theorem dX5_seen_3 : decode cX5_seen 3 = .ok (.ldc2_w 185, 3) := by decide +kernel
theorem dX5_seen_6 : decode cX5_seen 6 = .ok (.invokestatic 53, 3) := by decide +kernel
theorem dX5_seen_9 : decode cX5_seen 9 = .ok (.ifCond .eq 12, 3) := by decide +kernel
theorem dX5_seen_12 : decode cX5_seen 12 = .ok (.iload_n 2, 1) := by decide +kernel
theorem dX5_seen_13 : decode cX5_seen 13 = .ok (.invokestatic 59, 3) := by decide +kernel
theorem dX5_seen_16 : decode cX5_seen 16 = .ok (.ifCond .ne 5, 3) := by decide +kernel
theorem dX5_seen_19 : decode cX5_seen 19 = .ok (.iconst (-1), 1) := by decide +kernel
theorem dX5_seen_20 : decode cX5_seen 20 = .ok (.ireturn, 1) := by decide +kernel
theorem dX5_seen_21 : decode cX5_seen 21 = .ok (.iload_n 1, 1) := by decide +kernel
theorem dX5_seen_22 : decode cX5_seen 22 = .ok (.i2l, 1) := by decide +kernel
theorem dX5_seen_23 : decode cX5_seen 23 = .ok (.lconst 0, 1) := by decide +kernel
theorem dX5_seen_24 : decode cX5_seen 24 = .ok (.ldc2_w 185, 3) := by decide +kernel
theorem dX5_seen_27 : decode cX5_seen 27 = .ok (.invokestatic 53, 3) := by decide +kernel
theorem dX5_seen_30 : decode cX5_seen 30 = .ok (.ifCond .eq 19, 3) := by decide +kernel
theorem dX5_seen_33 : decode cX5_seen 33 = .ok (.iload_n 1, 1) := by decide +kernel
theorem dX5_seen_34 : decode cX5_seen 34 = .ok (.ifCond .ne 18, 3) := by decide +kernel
theorem dX5_seen_37 : decode cX5_seen 37 = .ok (.iload_n 2, 1) := by decide +kernel
theorem dX5_seen_38 : decode cX5_seen 38 = .ok (.i2l, 1) := by decide +kernel
theorem dX5_seen_39 : decode cX5_seen 39 = .ok (.lconst 0, 1) := by decide +kernel
theorem dX5_seen_40 : decode cX5_seen 40 = .ok (.ldc2_w 187, 3) := by decide +kernel
theorem dX5_seen_43 : decode cX5_seen 43 = .ok (.invokestatic 53, 3) := by decide +kernel
theorem dX5_seen_46 : decode cX5_seen 46 = .ok (.ifCond .ne 6, 3) := by decide +kernel
theorem dX5_seen_49 : decode cX5_seen 49 = .ok (.bipush (-2), 2) := by decide +kernel
theorem dX5_seen_51 : decode cX5_seen 51 = .ok (.ireturn, 1) := by decide +kernel
theorem dX5_seen_52 : decode cX5_seen 52 = .ok (.aload_n 0, 1) := by decide +kernel
theorem dX5_seen_53 : decode cX5_seen 53 = .ok (.getfield 189, 3) := by decide +kernel
theorem dX5_seen_56 : decode cX5_seen 56 = .ok (.bipush 6, 2) := by decide +kernel
theorem dX5_seen_58 : decode cX5_seen 58 = .ok (.if_icmp .ne 6, 3) := by decide +kernel
theorem dX5_seen_61 : decode cX5_seen 61 = .ok (.bipush (-4), 2) := by decide +kernel
theorem dX5_seen_63 : decode cX5_seen 63 = .ok (.ireturn, 1) := by decide +kernel
theorem dX5_seen_64 : decode cX5_seen 64 = .ok (.aload_n 0, 1) := by decide +kernel
theorem dX5_seen_65 : decode cX5_seen 65 = .ok (.getfield 22, 3) := by decide +kernel
theorem dX5_seen_68 : decode cX5_seen 68 = .ok (.aload_n 0, 1) := by decide +kernel
theorem dX5_seen_69 : decode cX5_seen 69 = .ok (.getfield 189, 3) := by decide +kernel
theorem dX5_seen_72 : decode cX5_seen 72 = .ok (.iload_n 1, 1) := by decide +kernel
theorem dX5_seen_73 : decode cX5_seen 73 = .ok (.iastore, 1) := by decide +kernel
theorem dX5_seen_74 : decode cX5_seen 74 = .ok (.aload_n 0, 1) := by decide +kernel
theorem dX5_seen_75 : decode cX5_seen 75 = .ok (.getfield 25, 3) := by decide +kernel
theorem dX5_seen_78 : decode cX5_seen 78 = .ok (.aload_n 0, 1) := by decide +kernel
theorem dX5_seen_79 : decode cX5_seen 79 = .ok (.getfield 189, 3) := by decide +kernel
theorem dX5_seen_82 : decode cX5_seen 82 = .ok (.iload_n 2, 1) := by decide +kernel
theorem dX5_seen_83 : decode cX5_seen 83 = .ok (.iastore, 1) := by decide +kernel
theorem dX5_seen_84 : decode cX5_seen 84 = .ok (.aload_n 0, 1) := by decide +kernel
theorem dX5_seen_85 : decode cX5_seen 85 = .ok (.dup, 1) := by decide +kernel
theorem dX5_seen_86 : decode cX5_seen 86 = .ok (.getfield 189, 3) := by decide +kernel
theorem dX5_seen_89 : decode cX5_seen 89 = .ok (.iconst 1, 1) := by decide +kernel
theorem dX5_seen_90 : decode cX5_seen 90 = .ok (.iadd, 1) := by decide +kernel
theorem dX5_seen_91 : decode cX5_seen 91 = .ok (.putfield 189, 3) := by decide +kernel
theorem dX5_seen_94 : decode cX5_seen 94 = .ok (.aload_n 0, 1) := by decide +kernel
theorem dX5_seen_95 : decode cX5_seen 95 = .ok (.getfield 189, 3) := by decide +kernel
theorem dX5_seen_98 : decode cX5_seen 98 = .ok (.ireturn, 1) := by decide +kernel
theorem dX5_forget_0 : decode cX5_forget 0 = .ok (.aload_n 0, 1) := by decide +kernel
theorem dX5_forget_1 : decode cX5_forget 1 = .ok (.getfield 189, 3) := by decide +kernel
theorem dX5_forget_4 : decode cX5_forget 4 = .ok (.istore_n 1, 1) := by decide +kernel
theorem dX5_forget_5 : decode cX5_forget 5 = .ok (.aload_n 0, 1) := by decide +kernel
theorem dX5_forget_6 : decode cX5_forget 6 = .ok (.iconst 0, 1) := by decide +kernel
theorem dX5_forget_7 : decode cX5_forget 7 = .ok (.putfield 189, 3) := by decide +kernel
theorem dX5_forget_10 : decode cX5_forget 10 = .ok (.iload_n 1, 1) := by decide +kernel
theorem dX5_forget_11 : decode cX5_forget 11 = .ok (.ireturn, 1) := by decide +kernel
theorem dX5_holds_0 : decode cX5_holds 0 = .ok (.aload_n 0, 1) := by decide +kernel
theorem dX5_holds_1 : decode cX5_holds 1 = .ok (.getfield 22, 3) := by decide +kernel
theorem dX5_holds_4 : decode cX5_holds 4 = .ok (.iload_n 1, 1) := by decide +kernel
theorem dX5_holds_5 : decode cX5_holds 5 = .ok (.iaload, 1) := by decide +kernel
theorem dX5_holds_6 : decode cX5_holds 6 = .ok (.ifCond .ne 21, 3) := by decide +kernel
theorem dX5_holds_9 : decode cX5_holds 9 = .ok (.iload_n 2, 1) := by decide +kernel
theorem dX5_holds_10 : decode cX5_holds 10 = .ok (.aload_n 0, 1) := by decide +kernel
theorem dX5_holds_11 : decode cX5_holds 11 = .ok (.getfield 25, 3) := by decide +kernel
theorem dX5_holds_14 : decode cX5_holds 14 = .ok (.iload_n 1, 1) := by decide +kernel
theorem dX5_holds_15 : decode cX5_holds 15 = .ok (.iaload, 1) := by decide +kernel
theorem dX5_holds_16 : decode cX5_holds 16 = .ok (.if_icmp .ne 7, 3) := by decide +kernel
end
section
theorem dX5_holds_19 : decode cX5_holds 19 = .ok (.iconst 1, 1) := by decide +kernel
theorem dX5_holds_20 : decode cX5_holds 20 = .ok (.goto 40, 3) := by decide +kernel
theorem dX5_holds_23 : decode cX5_holds 23 = .ok (.iconst 0, 1) := by decide +kernel
theorem dX5_holds_24 : decode cX5_holds 24 = .ok (.goto 36, 3) := by decide +kernel
theorem dX5_holds_27 : decode cX5_holds 27 = .ok (.iload_n 2, 1) := by decide +kernel
theorem dX5_holds_28 : decode cX5_holds 28 = .ok (.aload_n 0, 1) := by decide +kernel
theorem dX5_holds_29 : decode cX5_holds 29 = .ok (.getfield 25, 3) := by decide +kernel
theorem dX5_holds_32 : decode cX5_holds 32 = .ok (.iload_n 1, 1) := by decide +kernel
theorem dX5_holds_33 : decode cX5_holds 33 = .ok (.iaload, 1) := by decide +kernel
theorem dX5_holds_34 : decode cX5_holds 34 = .ok (.ishr, 1) := by decide +kernel
theorem dX5_holds_35 : decode cX5_holds 35 = .ok (.iconst 1, 1) := by decide +kernel
theorem dX5_holds_36 : decode cX5_holds 36 = .ok (.iand, 1) := by decide +kernel
theorem dX5_holds_37 : decode cX5_holds 37 = .ok (.aload_n 0, 1) := by decide +kernel
theorem dX5_holds_38 : decode cX5_holds 38 = .ok (.getfield 22, 3) := by decide +kernel
theorem dX5_holds_41 : decode cX5_holds 41 = .ok (.iload_n 1, 1) := by decide +kernel
theorem dX5_holds_42 : decode cX5_holds 42 = .ok (.iaload, 1) := by decide +kernel
theorem dX5_holds_43 : decode cX5_holds 43 = .ok (.iconst 1, 1) := by decide +kernel
theorem dX5_holds_44 : decode cX5_holds 44 = .ok (.if_icmp .ne 7, 3) := by decide +kernel
theorem dX5_holds_47 : decode cX5_holds 47 = .ok (.iconst 1, 1) := by decide +kernel
theorem dX5_holds_48 : decode cX5_holds 48 = .ok (.goto 4, 3) := by decide +kernel
theorem dX5_holds_51 : decode cX5_holds 51 = .ok (.iconst 0, 1) := by decide +kernel
theorem dX5_holds_52 : decode cX5_holds 52 = .ok (.if_icmp .ne 7, 3) := by decide +kernel
theorem dX5_holds_55 : decode cX5_holds 55 = .ok (.iconst 1, 1) := by decide +kernel
theorem dX5_holds_56 : decode cX5_holds 56 = .ok (.goto 4, 3) := by decide +kernel
theorem dX5_holds_59 : decode cX5_holds 59 = .ok (.iconst 0, 1) := by decide +kernel
theorem dX5_holds_60 : decode cX5_holds 60 = .ok (.ireturn, 1) := by decide +kernel
set_option maxRecDepth 20000 in
theorem ggX5_fits_X5_rulersBy : GoodIn wsX5_fits wsX5_rulersBy := goodIn_r _ [6, 7, 8, 9, 5, 10, 11, 12, 13, 14, 15, 16, 17, 18, 19, 20, 21, 22, 23, 24, 25, 26, 27, 28, 29, 30, 31, 32, 39, 40, 41, 42, 43, 44, 45, 46, 47, 48, 49, 50, 51, 52, 53, 54, 55, 56, 57, 58, 59, 60, 61, 62] (by decide +kernel) (by decide +kernel)
set_option maxRecDepth 20000 in
theorem gX5_fits_X5_rulersBy : GoodIn wsX5_fits (wsV RX5 111 RX5 yX5_rulersBy wsX5_rulersBy) := goodIn_app (goodIn_of _ (by decide +kernel)) ggX5_fits_X5_rulersBy
set_option maxRecDepth 20000 in
theorem ggX5_fits_X5_holds : GoodIn wsX5_fits wsX5_holds := goodIn_r _ [36, 37, 38, 39, 40, 41, 42, 43, 44, 45, 46, 47, 48, 49, 50, 51, 52, 53, 54, 55, 56, 57, 58, 59, 60, 61, 62] (by decide +kernel) (by decide +kernel)
set_option maxRecDepth 20000 in
theorem gX5_fits_X5_holds : GoodIn wsX5_fits (wsV RX5 192 RX5 yX5_holds wsX5_holds) := goodIn_app (goodIn_of _ (by decide +kernel)) ggX5_fits_X5_holds
theorem dX5_fits_0 : decode cX5_fits 0 = .ok (.iconst 0, 1) := by decide +kernel
theorem dX5_fits_1 : decode cX5_fits 1 = .ok (.istore_n 1, 1) := by decide +kernel
theorem dX5_fits_2 : decode cX5_fits 2 = .ok (.iconst 0, 1) := by decide +kernel
theorem dX5_fits_3 : decode cX5_fits 3 = .ok (.istore_n 2, 1) := by decide +kernel
theorem dX5_fits_4 : decode cX5_fits 4 = .ok (.iload_n 2, 1) := by decide +kernel
theorem dX5_fits_5 : decode cX5_fits 5 = .ok (.bipush 10, 2) := by decide +kernel
theorem dX5_fits_7 : decode cX5_fits 7 = .ok (.if_icmp .ge 73, 3) := by decide +kernel
theorem dX5_fits_10 : decode cX5_fits 10 = .ok (.aload_n 0, 1) := by decide +kernel
theorem dX5_fits_11 : decode cX5_fits 11 = .ok (.iload_n 2, 1) := by decide +kernel
theorem dX5_fits_12 : decode cX5_fits 12 = .ok (.invokevirtual 111, 3) := by decide +kernel
theorem dX5_fits_15 : decode cX5_fits 15 = .ok (.istore_n 3, 1) := by decide +kernel
theorem dX5_fits_16 : decode cX5_fits 16 = .ok (.iconst 1, 1) := by decide +kernel
theorem dX5_fits_17 : decode cX5_fits 17 = .ok (.istore 4, 2) := by decide +kernel
theorem dX5_fits_19 : decode cX5_fits 19 = .ok (.iconst 0, 1) := by decide +kernel
theorem dX5_fits_20 : decode cX5_fits 20 = .ok (.istore 5, 2) := by decide +kernel
theorem dX5_fits_22 : decode cX5_fits 22 = .ok (.iload 5, 2) := by decide +kernel
theorem dX5_fits_24 : decode cX5_fits 24 = .ok (.aload_n 0, 1) := by decide +kernel
theorem dX5_fits_25 : decode cX5_fits 25 = .ok (.getfield 189, 3) := by decide +kernel
theorem dX5_fits_28 : decode cX5_fits 28 = .ok (.if_icmp .ge 31, 3) := by decide +kernel
theorem dX5_fits_31 : decode cX5_fits 31 = .ok (.iload 4, 2) := by decide +kernel
theorem dX5_fits_33 : decode cX5_fits 33 = .ok (.ifCond .eq 17, 3) := by decide +kernel
theorem dX5_fits_36 : decode cX5_fits 36 = .ok (.aload_n 0, 1) := by decide +kernel
theorem dX5_fits_37 : decode cX5_fits 37 = .ok (.iload 5, 2) := by decide +kernel
theorem dX5_fits_39 : decode cX5_fits 39 = .ok (.iload_n 3, 1) := by decide +kernel
theorem dX5_fits_40 : decode cX5_fits 40 = .ok (.invokevirtual 192, 3) := by decide +kernel
theorem dX5_fits_43 : decode cX5_fits 43 = .ok (.ifCond .eq 7, 3) := by decide +kernel
theorem dX5_fits_46 : decode cX5_fits 46 = .ok (.iconst 1, 1) := by decide +kernel
theorem dX5_fits_47 : decode cX5_fits 47 = .ok (.goto 4, 3) := by decide +kernel
theorem dX5_fits_50 : decode cX5_fits 50 = .ok (.iconst 0, 1) := by decide +kernel
theorem dX5_fits_51 : decode cX5_fits 51 = .ok (.istore 4, 2) := by decide +kernel
theorem dX5_fits_53 : decode cX5_fits 53 = .ok (.iinc 5 1, 3) := by decide +kernel
theorem dX5_fits_56 : decode cX5_fits 56 = .ok (.goto (-34), 3) := by decide +kernel
theorem dX5_fits_59 : decode cX5_fits 59 = .ok (.iload_n 1, 1) := by decide +kernel
theorem dX5_fits_60 : decode cX5_fits 60 = .ok (.iload 4, 2) := by decide +kernel
theorem dX5_fits_62 : decode cX5_fits 62 = .ok (.ifCond .eq 9, 3) := by decide +kernel
theorem dX5_fits_65 : decode cX5_fits 65 = .ok (.iconst 1, 1) := by decide +kernel
theorem dX5_fits_66 : decode cX5_fits 66 = .ok (.iload_n 2, 1) := by decide +kernel
theorem dX5_fits_67 : decode cX5_fits 67 = .ok (.ishl, 1) := by decide +kernel
theorem dX5_fits_68 : decode cX5_fits 68 = .ok (.goto 4, 3) := by decide +kernel
theorem dX5_fits_71 : decode cX5_fits 71 = .ok (.iconst 0, 1) := by decide +kernel
theorem dX5_fits_72 : decode cX5_fits 72 = .ok (.ior, 1) := by decide +kernel
theorem dX5_fits_73 : decode cX5_fits 73 = .ok (.istore_n 1, 1) := by decide +kernel
theorem dX5_fits_74 : decode cX5_fits 74 = .ok (.iinc 2 1, 3) := by decide +kernel
theorem dX5_fits_77 : decode cX5_fits 77 = .ok (.goto (-73), 3) := by decide +kernel
theorem dX5_fits_80 : decode cX5_fits 80 = .ok (.iload_n 1, 1) := by decide +kernel
theorem dX5_fits_81 : decode cX5_fits 81 = .ok (.ireturn, 1) := by decide +kernel
set_option maxRecDepth 20000 in
theorem ggX5_year_X5_in : GoodIn wsX5_year wsX5_in := goodIn_r _ [12] (by decide +kernel) (by decide +kernel)
set_option maxRecDepth 20000 in
theorem gX5_year_X5_in : GoodIn wsX5_year (va_wsS RX5 53 yX5_in wsX5_in) := goodIn_app (goodIn_of _ (by decide +kernel)) ggX5_year_X5_in
set_option maxRecDepth 20000 in
theorem ggX5_year_X5_rulersBy : GoodIn wsX5_year wsX5_rulersBy := goodIn_r _ [16, 17, 18, 19, 11, 20, 21, 22, 23, 24, 25, 26, 27, 28, 29, 30, 31, 32, 33, 34, 35, 36, 37, 38, 39, 9, 10, 12, 44, 45, 46, 47, 48, 49, 50, 51, 52, 53, 54, 55, 56, 57, 58, 59, 60, 61, 62, 63, 64, 65, 66, 67] (by decide +kernel) (by decide +kernel)
set_option maxRecDepth 20000 in
theorem gX5_year_X5_rulersBy : GoodIn wsX5_year (wsV RX5 111 RX5 yX5_rulersBy wsX5_rulersBy) := goodIn_app (goodIn_of _ (by decide +kernel)) ggX5_year_X5_rulersBy
set_option maxRecDepth 20000 in
theorem ggX5_year_X5_rule : GoodIn wsX5_year wsX5_rule := goodIn_r _ [43, 4, 5, 44, 45, 46, 47, 48, 49, 50, 51, 52, 53, 54, 55, 56, 57, 58, 59, 60, 61, 62, 63, 64, 65, 66, 67] (by decide +kernel) (by decide +kernel)
set_option maxRecDepth 20000 in
theorem gX5_year_X5_rule : GoodIn wsX5_year (wsV RX5 124 RX5 yX5_rule wsX5_rule) := goodIn_app (goodIn_of _ (by decide +kernel)) ggX5_year_X5_rule
theorem dX5_year_0 : decode cX5_year 0 = .ok (.iload_n 1, 1) := by decide +kernel
theorem dX5_year_1 : decode cX5_year 1 = .ok (.i2l, 1) := by decide +kernel
theorem dX5_year_2 : decode cX5_year 2 = .ok (.lconst 0, 1) := by decide +kernel
theorem dX5_year_3 : decode cX5_year 3 = .ok (.ldc2_w 195, 3) := by decide +kernel
theorem dX5_year_6 : decode cX5_year 6 = .ok (.invokestatic 53, 3) := by decide +kernel
theorem dX5_year_9 : decode cX5_year 9 = .ok (.ifCond .eq 27, 3) := by decide +kernel
theorem dX5_year_12 : decode cX5_year 12 = .ok (.iload_n 2, 1) := by decide +kernel
theorem dX5_year_13 : decode cX5_year 13 = .ok (.i2l, 1) := by decide +kernel
theorem dX5_year_14 : decode cX5_year 14 = .ok (.lconst 1, 1) := by decide +kernel
theorem dX5_year_15 : decode cX5_year 15 = .ok (.ldc2_w 197, 3) := by decide +kernel
theorem dX5_year_18 : decode cX5_year 18 = .ok (.invokestatic 53, 3) := by decide +kernel
theorem dX5_year_21 : decode cX5_year 21 = .ok (.ifCond .eq 15, 3) := by decide +kernel
theorem dX5_year_24 : decode cX5_year 24 = .ok (.iload_n 3, 1) := by decide +kernel
theorem dX5_year_25 : decode cX5_year 25 = .ok (.i2l, 1) := by decide +kernel
theorem dX5_year_26 : decode cX5_year 26 = .ok (.lconst 0, 1) := by decide +kernel
theorem dX5_year_27 : decode cX5_year 27 = .ok (.ldc2_w 148, 3) := by decide +kernel
theorem dX5_year_30 : decode cX5_year 30 = .ok (.invokestatic 53, 3) := by decide +kernel
theorem dX5_year_33 : decode cX5_year 33 = .ok (.ifCond .ne 6, 3) := by decide +kernel
theorem dX5_year_36 : decode cX5_year 36 = .ok (.bipush (-2), 2) := by decide +kernel
theorem dX5_year_38 : decode cX5_year 38 = .ok (.ireturn, 1) := by decide +kernel
theorem dX5_year_39 : decode cX5_year 39 = .ok (.iload_n 1, 1) := by decide +kernel
theorem dX5_year_40 : decode cX5_year 40 = .ok (.istore 4, 2) := by decide +kernel
theorem dX5_year_42 : decode cX5_year 42 = .ok (.iconst 0, 1) := by decide +kernel
theorem dX5_year_43 : decode cX5_year 43 = .ok (.istore 5, 2) := by decide +kernel
theorem dX5_year_45 : decode cX5_year 45 = .ok (.aload_n 0, 1) := by decide +kernel
theorem dX5_year_46 : decode cX5_year 46 = .ok (.iconst 0, 1) := by decide +kernel
theorem dX5_year_47 : decode cX5_year 47 = .ok (.putfield 114, 3) := by decide +kernel
theorem dX5_year_50 : decode cX5_year 50 = .ok (.aload_n 0, 1) := by decide +kernel
theorem dX5_year_51 : decode cX5_year 51 = .ok (.iconst 0, 1) := by decide +kernel
theorem dX5_year_52 : decode cX5_year 52 = .ok (.putfield 117, 3) := by decide +kernel
theorem dX5_year_55 : decode cX5_year 55 = .ok (.iconst 0, 1) := by decide +kernel
theorem dX5_year_56 : decode cX5_year 56 = .ok (.istore 6, 2) := by decide +kernel
theorem dX5_year_58 : decode cX5_year 58 = .ok (.iload 6, 2) := by decide +kernel
theorem dX5_year_60 : decode cX5_year 60 = .ok (.iload_n 2, 1) := by decide +kernel
theorem dX5_year_61 : decode cX5_year 61 = .ok (.if_icmp .ge 90, 3) := by decide +kernel
theorem dX5_year_64 : decode cX5_year 64 = .ok (.ldc2_w 199, 3) := by decide +kernel
theorem dX5_year_67 : decode cX5_year 67 = .ok (.iload 4, 2) := by decide +kernel
theorem dX5_year_69 : decode cX5_year 69 = .ok (.i2l, 1) := by decide +kernel
theorem dX5_year_70 : decode cX5_year 70 = .ok (.lmul, 1) := by decide +kernel
theorem dX5_year_71 : decode cX5_year 71 = .ok (.ldc2_w 201, 3) := by decide +kernel
theorem dX5_year_74 : decode cX5_year 74 = .ok (.ladd, 1) := by decide +kernel
theorem dX5_year_75 : decode cX5_year 75 = .ok (.ldc2_w 203, 3) := by decide +kernel
theorem dX5_year_78 : decode cX5_year 78 = .ok (.lrem, 1) := by decide +kernel
theorem dX5_year_79 : decode cX5_year 79 = .ok (.l2i, 1) := by decide +kernel
theorem dX5_year_80 : decode cX5_year 80 = .ok (.istore 4, 2) := by decide +kernel
theorem dX5_year_82 : decode cX5_year 82 = .ok (.aload_n 0, 1) := by decide +kernel
theorem dX5_year_83 : decode cX5_year 83 = .ok (.iload 4, 2) := by decide +kernel
theorem dX5_year_85 : decode cX5_year 85 = .ok (.bipush 10, 2) := by decide +kernel
theorem dX5_year_87 : decode cX5_year 87 = .ok (.irem, 1) := by decide +kernel
theorem dX5_year_88 : decode cX5_year 88 = .ok (.invokevirtual 111, 3) := by decide +kernel
theorem dX5_year_91 : decode cX5_year 91 = .ok (.istore 7, 2) := by decide +kernel
theorem dX5_year_93 : decode cX5_year 93 = .ok (.aload_n 0, 1) := by decide +kernel
theorem dX5_year_94 : decode cX5_year 94 = .ok (.iload 7, 2) := by decide +kernel
theorem dX5_year_96 : decode cX5_year 96 = .ok (.ifCond .ne 10, 3) := by decide +kernel
theorem dX5_year_99 : decode cX5_year 99 = .ok (.aload_n 0, 1) := by decide +kernel
theorem dX5_year_100 : decode cX5_year 100 = .ok (.getfield 117, 3) := by decide +kernel
theorem dX5_year_103 : decode cX5_year 103 = .ok (.goto 5, 3) := by decide +kernel
theorem dX5_year_106 : decode cX5_year 106 = .ok (.iload 7, 2) := by decide +kernel
theorem dX5_year_108 : decode cX5_year 108 = .ok (.invokevirtual 124, 3) := by decide +kernel
theorem dX5_year_111 : decode cX5_year 111 = .ok (.iload 5, 2) := by decide +kernel
theorem dX5_year_113 : decode cX5_year 113 = .ok (.iload_n 3, 1) := by decide +kernel
theorem dX5_year_114 : decode cX5_year 114 = .ok (.bipush 6, 2) := by decide +kernel
theorem dX5_year_116 : decode cX5_year 116 = .ok (.if_icmp .ge 14, 3) := by decide +kernel
theorem dX5_year_119 : decode cX5_year 119 = .ok (.aload_n 0, 1) := by decide +kernel
theorem dX5_year_120 : decode cX5_year 120 = .ok (.getfield 117, 3) := by decide +kernel
theorem dX5_year_123 : decode cX5_year 123 = .ok (.iload_n 3, 1) := by decide +kernel
theorem dX5_year_124 : decode cX5_year 124 = .ok (.ishr, 1) := by decide +kernel
theorem dX5_year_125 : decode cX5_year 125 = .ok (.iconst 1, 1) := by decide +kernel
theorem dX5_year_126 : decode cX5_year 126 = .ok (.iand, 1) := by decide +kernel
theorem dX5_year_127 : decode cX5_year 127 = .ok (.goto 15, 3) := by decide +kernel
theorem dX5_year_130 : decode cX5_year 130 = .ok (.aload_n 0, 1) := by decide +kernel
theorem dX5_year_131 : decode cX5_year 131 = .ok (.getfield 117, 3) := by decide +kernel
theorem dX5_year_134 : decode cX5_year 134 = .ok (.ifCond .ne 7, 3) := by decide +kernel
theorem dX5_year_137 : decode cX5_year 137 = .ok (.iconst 1, 1) := by decide +kernel
theorem dX5_year_138 : decode cX5_year 138 = .ok (.goto 4, 3) := by decide +kernel
theorem dX5_year_141 : decode cX5_year 141 = .ok (.iconst 0, 1) := by decide +kernel
theorem dX5_year_142 : decode cX5_year 142 = .ok (.iadd, 1) := by decide +kernel
theorem dX5_year_143 : decode cX5_year 143 = .ok (.istore 5, 2) := by decide +kernel
theorem dX5_year_145 : decode cX5_year 145 = .ok (.iinc 6 1, 3) := by decide +kernel
theorem dX5_year_148 : decode cX5_year 148 = .ok (.goto (-90), 3) := by decide +kernel
theorem dX5_year_151 : decode cX5_year 151 = .ok (.iload_n 3, 1) := by decide +kernel
theorem dX5_year_152 : decode cX5_year 152 = .ok (.bipush 7, 2) := by decide +kernel
theorem dX5_year_154 : decode cX5_year 154 = .ok (.if_icmp .ne 10, 3) := by decide +kernel
theorem dX5_year_157 : decode cX5_year 157 = .ok (.aload_n 0, 1) := by decide +kernel
theorem dX5_year_158 : decode cX5_year 158 = .ok (.getfield 114, 3) := by decide +kernel
theorem dX5_year_161 : decode cX5_year 161 = .ok (.goto 5, 3) := by decide +kernel
theorem dX5_year_164 : decode cX5_year 164 = .ok (.iload 5, 2) := by decide +kernel
theorem dX5_year_166 : decode cX5_year 166 = .ok (.ireturn, 1) := by decide +kernel
theorem dX5_carry_0 : decode cX5_carry 0 = .ok (.aload_n 0, 1) := by decide +kernel
theorem dX5_carry_1 : decode cX5_carry 1 = .ok (.getfield 205, 3) := by decide +kernel
theorem dX5_carry_4 : decode cX5_carry 4 = .ok (.ifCond .eq 7, 3) := by decide +kernel
theorem dX5_carry_7 : decode cX5_carry 7 = .ok (.iload_n 1, 1) := by decide +kernel
theorem dX5_carry_8 : decode cX5_carry 8 = .ok (.goto 12, 3) := by decide +kernel
theorem dX5_carry_11 : decode cX5_carry 11 = .ok (.aload_n 0, 1) := by decide +kernel
theorem dX5_carry_12 : decode cX5_carry 12 = .ok (.getfield 37, 3) := by decide +kernel
theorem dX5_carry_15 : decode cX5_carry 15 = .ok (.aload_n 0, 1) := by decide +kernel
theorem dX5_carry_16 : decode cX5_carry 16 = .ok (.getfield 209, 3) := by decide +kernel
theorem dX5_carry_19 : decode cX5_carry 19 = .ok (.iaload, 1) := by decide +kernel
theorem dX5_carry_20 : decode cX5_carry 20 = .ok (.istore_n 2, 1) := by decide +kernel
theorem dX5_carry_21 : decode cX5_carry 21 = .ok (.aload_n 0, 1) := by decide +kernel
theorem dX5_carry_22 : decode cX5_carry 22 = .ok (.getfield 37, 3) := by decide +kernel
theorem dX5_carry_25 : decode cX5_carry 25 = .ok (.aload_n 0, 1) := by decide +kernel
theorem dX5_carry_26 : decode cX5_carry 26 = .ok (.getfield 209, 3) := by decide +kernel
theorem dX5_carry_29 : decode cX5_carry 29 = .ok (.iload_n 2, 1) := by decide +kernel
theorem dX5_carry_30 : decode cX5_carry 30 = .ok (.iastore, 1) := by decide +kernel
theorem dX5_carry_31 : decode cX5_carry 31 = .ok (.aload_n 0, 1) := by decide +kernel
theorem dX5_carry_32 : decode cX5_carry 32 = .ok (.dup, 1) := by decide +kernel
theorem dX5_carry_33 : decode cX5_carry 33 = .ok (.getfield 209, 3) := by decide +kernel
theorem dX5_carry_36 : decode cX5_carry 36 = .ok (.iconst 1, 1) := by decide +kernel
theorem dX5_carry_37 : decode cX5_carry 37 = .ok (.iadd, 1) := by decide +kernel
theorem dX5_carry_38 : decode cX5_carry 38 = .ok (.putfield 209, 3) := by decide +kernel
theorem dX5_carry_41 : decode cX5_carry 41 = .ok (.iload_n 2, 1) := by decide +kernel
theorem dX5_carry_42 : decode cX5_carry 42 = .ok (.ireturn, 1) := by decide +kernel
set_option maxRecDepth 20000 in
theorem ggX5_passAll_X5_carry : GoodIn wsX5_passAll wsX5_carry := goodIn_r _ [17, 18, 19, 20, 21, 22, 23, 24, 25, 26, 27, 28, 29, 30, 31, 32, 33, 34, 35, 36, 37, 38, 39, 40, 41, 42, 43, 44] (by decide +kernel) (by decide +kernel)
set_option maxRecDepth 20000 in
theorem gX5_passAll_X5_carry : GoodIn wsX5_passAll (wsV RX5 212 RX5 yX5_carry wsX5_carry) := goodIn_app (goodIn_of _ (by decide +kernel)) ggX5_passAll_X5_carry
theorem dX5_passAll_0 : decode cX5_passAll 0 = .ok (.aload_n 0, 1) := by decide +kernel
theorem dX5_passAll_1 : decode cX5_passAll 1 = .ok (.aload_n 0, 1) := by decide +kernel
theorem dX5_passAll_2 : decode cX5_passAll 2 = .ok (.aload_n 0, 1) := by decide +kernel
theorem dX5_passAll_3 : decode cX5_passAll 3 = .ok (.getfield 63, 3) := by decide +kernel
theorem dX5_passAll_6 : decode cX5_passAll 6 = .ok (.invokevirtual 212, 3) := by decide +kernel
theorem dX5_passAll_9 : decode cX5_passAll 9 = .ok (.putfield 63, 3) := by decide +kernel
theorem dX5_passAll_12 : decode cX5_passAll 12 = .ok (.aload_n 0, 1) := by decide +kernel
theorem dX5_passAll_13 : decode cX5_passAll 13 = .ok (.aload_n 0, 1) := by decide +kernel
theorem dX5_passAll_14 : decode cX5_passAll 14 = .ok (.aload_n 0, 1) := by decide +kernel
theorem dX5_passAll_15 : decode cX5_passAll 15 = .ok (.getfield 69, 3) := by decide +kernel
theorem dX5_passAll_18 : decode cX5_passAll 18 = .ok (.invokevirtual 212, 3) := by decide +kernel
theorem dX5_passAll_21 : decode cX5_passAll 21 = .ok (.putfield 69, 3) := by decide +kernel
theorem dX5_passAll_24 : decode cX5_passAll 24 = .ok (.aload_n 0, 1) := by decide +kernel
theorem dX5_passAll_25 : decode cX5_passAll 25 = .ok (.aload_n 0, 1) := by decide +kernel
theorem dX5_passAll_26 : decode cX5_passAll 26 = .ok (.aload_n 0, 1) := by decide +kernel
theorem dX5_passAll_27 : decode cX5_passAll 27 = .ok (.getfield 79, 3) := by decide +kernel
theorem dX5_passAll_30 : decode cX5_passAll 30 = .ok (.invokevirtual 212, 3) := by decide +kernel
theorem dX5_passAll_33 : decode cX5_passAll 33 = .ok (.putfield 79, 3) := by decide +kernel
theorem dX5_passAll_36 : decode cX5_passAll 36 = .ok (.aload_n 0, 1) := by decide +kernel
theorem dX5_passAll_37 : decode cX5_passAll 37 = .ok (.aload_n 0, 1) := by decide +kernel
theorem dX5_passAll_38 : decode cX5_passAll 38 = .ok (.aload_n 0, 1) := by decide +kernel
theorem dX5_passAll_39 : decode cX5_passAll 39 = .ok (.getfield 44, 3) := by decide +kernel
theorem dX5_passAll_42 : decode cX5_passAll 42 = .ok (.invokevirtual 212, 3) := by decide +kernel
theorem dX5_passAll_45 : decode cX5_passAll 45 = .ok (.putfield 44, 3) := by decide +kernel
theorem dX5_passAll_48 : decode cX5_passAll 48 = .ok (.aload_n 0, 1) := by decide +kernel
theorem dX5_passAll_49 : decode cX5_passAll 49 = .ok (.aload_n 0, 1) := by decide +kernel
theorem dX5_passAll_50 : decode cX5_passAll 50 = .ok (.aload_n 0, 1) := by decide +kernel
theorem dX5_passAll_51 : decode cX5_passAll 51 = .ok (.getfield 48, 3) := by decide +kernel
theorem dX5_passAll_54 : decode cX5_passAll 54 = .ok (.invokevirtual 212, 3) := by decide +kernel
theorem dX5_passAll_57 : decode cX5_passAll 57 = .ok (.putfield 48, 3) := by decide +kernel
theorem dX5_passAll_60 : decode cX5_passAll 60 = .ok (.aload_n 0, 1) := by decide +kernel
theorem dX5_passAll_61 : decode cX5_passAll 61 = .ok (.aload_n 0, 1) := by decide +kernel
theorem dX5_passAll_62 : decode cX5_passAll 62 = .ok (.aload_n 0, 1) := by decide +kernel
theorem dX5_passAll_63 : decode cX5_passAll 63 = .ok (.getfield 189, 3) := by decide +kernel
theorem dX5_passAll_66 : decode cX5_passAll 66 = .ok (.invokevirtual 212, 3) := by decide +kernel
theorem dX5_passAll_69 : decode cX5_passAll 69 = .ok (.putfield 189, 3) := by decide +kernel
theorem dX5_passAll_72 : decode cX5_passAll 72 = .ok (.iconst 0, 1) := by decide +kernel
theorem dX5_passAll_73 : decode cX5_passAll 73 = .ok (.istore_n 1, 1) := by decide +kernel
theorem dX5_passAll_74 : decode cX5_passAll 74 = .ok (.iload_n 1, 1) := by decide +kernel
theorem dX5_passAll_75 : decode cX5_passAll 75 = .ok (.bipush 6, 2) := by decide +kernel
theorem dX5_passAll_77 : decode cX5_passAll 77 = .ok (.if_icmp .ge 89, 3) := by decide +kernel
theorem dX5_passAll_80 : decode cX5_passAll 80 = .ok (.aload_n 0, 1) := by decide +kernel
theorem dX5_passAll_81 : decode cX5_passAll 81 = .ok (.getfield 7, 3) := by decide +kernel
theorem dX5_passAll_84 : decode cX5_passAll 84 = .ok (.iload_n 1, 1) := by decide +kernel
theorem dX5_passAll_85 : decode cX5_passAll 85 = .ok (.aload_n 0, 1) := by decide +kernel
theorem dX5_passAll_86 : decode cX5_passAll 86 = .ok (.aload_n 0, 1) := by decide +kernel
theorem dX5_passAll_87 : decode cX5_passAll 87 = .ok (.getfield 7, 3) := by decide +kernel
theorem dX5_passAll_90 : decode cX5_passAll 90 = .ok (.iload_n 1, 1) := by decide +kernel
theorem dX5_passAll_91 : decode cX5_passAll 91 = .ok (.iaload, 1) := by decide +kernel
theorem dX5_passAll_92 : decode cX5_passAll 92 = .ok (.invokevirtual 212, 3) := by decide +kernel
theorem dX5_passAll_95 : decode cX5_passAll 95 = .ok (.iastore, 1) := by decide +kernel
theorem dX5_passAll_96 : decode cX5_passAll 96 = .ok (.aload_n 0, 1) := by decide +kernel
theorem dX5_passAll_97 : decode cX5_passAll 97 = .ok (.getfield 13, 3) := by decide +kernel
theorem dX5_passAll_100 : decode cX5_passAll 100 = .ok (.iload_n 1, 1) := by decide +kernel
theorem dX5_passAll_101 : decode cX5_passAll 101 = .ok (.aload_n 0, 1) := by decide +kernel
theorem dX5_passAll_102 : decode cX5_passAll 102 = .ok (.aload_n 0, 1) := by decide +kernel
theorem dX5_passAll_103 : decode cX5_passAll 103 = .ok (.getfield 13, 3) := by decide +kernel
theorem dX5_passAll_106 : decode cX5_passAll 106 = .ok (.iload_n 1, 1) := by decide +kernel
theorem dX5_passAll_107 : decode cX5_passAll 107 = .ok (.iaload, 1) := by decide +kernel
theorem dX5_passAll_108 : decode cX5_passAll 108 = .ok (.invokevirtual 212, 3) := by decide +kernel
theorem dX5_passAll_111 : decode cX5_passAll 111 = .ok (.iastore, 1) := by decide +kernel
theorem dX5_passAll_112 : decode cX5_passAll 112 = .ok (.aload_n 0, 1) := by decide +kernel
theorem dX5_passAll_113 : decode cX5_passAll 113 = .ok (.getfield 16, 3) := by decide +kernel
theorem dX5_passAll_116 : decode cX5_passAll 116 = .ok (.iload_n 1, 1) := by decide +kernel
theorem dX5_passAll_117 : decode cX5_passAll 117 = .ok (.aload_n 0, 1) := by decide +kernel
theorem dX5_passAll_118 : decode cX5_passAll 118 = .ok (.aload_n 0, 1) := by decide +kernel
theorem dX5_passAll_119 : decode cX5_passAll 119 = .ok (.getfield 16, 3) := by decide +kernel
theorem dX5_passAll_122 : decode cX5_passAll 122 = .ok (.iload_n 1, 1) := by decide +kernel
theorem dX5_passAll_123 : decode cX5_passAll 123 = .ok (.iaload, 1) := by decide +kernel
theorem dX5_passAll_124 : decode cX5_passAll 124 = .ok (.invokevirtual 212, 3) := by decide +kernel
theorem dX5_passAll_127 : decode cX5_passAll 127 = .ok (.iastore, 1) := by decide +kernel
theorem dX5_passAll_128 : decode cX5_passAll 128 = .ok (.aload_n 0, 1) := by decide +kernel
theorem dX5_passAll_129 : decode cX5_passAll 129 = .ok (.getfield 22, 3) := by decide +kernel
theorem dX5_passAll_132 : decode cX5_passAll 132 = .ok (.iload_n 1, 1) := by decide +kernel
theorem dX5_passAll_133 : decode cX5_passAll 133 = .ok (.aload_n 0, 1) := by decide +kernel
theorem dX5_passAll_134 : decode cX5_passAll 134 = .ok (.aload_n 0, 1) := by decide +kernel
theorem dX5_passAll_135 : decode cX5_passAll 135 = .ok (.getfield 22, 3) := by decide +kernel
theorem dX5_passAll_138 : decode cX5_passAll 138 = .ok (.iload_n 1, 1) := by decide +kernel
theorem dX5_passAll_139 : decode cX5_passAll 139 = .ok (.iaload, 1) := by decide +kernel
theorem dX5_passAll_140 : decode cX5_passAll 140 = .ok (.invokevirtual 212, 3) := by decide +kernel
theorem dX5_passAll_143 : decode cX5_passAll 143 = .ok (.iastore, 1) := by decide +kernel
theorem dX5_passAll_144 : decode cX5_passAll 144 = .ok (.aload_n 0, 1) := by decide +kernel
theorem dX5_passAll_145 : decode cX5_passAll 145 = .ok (.getfield 25, 3) := by decide +kernel
theorem dX5_passAll_148 : decode cX5_passAll 148 = .ok (.iload_n 1, 1) := by decide +kernel
theorem dX5_passAll_149 : decode cX5_passAll 149 = .ok (.aload_n 0, 1) := by decide +kernel
theorem dX5_passAll_150 : decode cX5_passAll 150 = .ok (.aload_n 0, 1) := by decide +kernel
theorem dX5_passAll_151 : decode cX5_passAll 151 = .ok (.getfield 25, 3) := by decide +kernel
theorem dX5_passAll_154 : decode cX5_passAll 154 = .ok (.iload_n 1, 1) := by decide +kernel
theorem dX5_passAll_155 : decode cX5_passAll 155 = .ok (.iaload, 1) := by decide +kernel
theorem dX5_passAll_156 : decode cX5_passAll 156 = .ok (.invokevirtual 212, 3) := by decide +kernel
theorem dX5_passAll_159 : decode cX5_passAll 159 = .ok (.iastore, 1) := by decide +kernel
theorem dX5_passAll_160 : decode cX5_passAll 160 = .ok (.iinc 1 1, 3) := by decide +kernel
theorem dX5_passAll_163 : decode cX5_passAll 163 = .ok (.goto (-89), 3) := by decide +kernel
theorem dX5_passAll_166 : decode cX5_passAll 166 = .ok (.iconst 0, 1) := by decide +kernel
theorem dX5_passAll_167 : decode cX5_passAll 167 = .ok (.istore_n 1, 1) := by decide +kernel
theorem dX5_passAll_168 : decode cX5_passAll 168 = .ok (.iload_n 1, 1) := by decide +kernel
theorem dX5_passAll_169 : decode cX5_passAll 169 = .ok (.bipush 10, 2) := by decide +kernel
theorem dX5_passAll_171 : decode cX5_passAll 171 = .ok (.if_icmp .ge 25, 3) := by decide +kernel
theorem dX5_passAll_174 : decode cX5_passAll 174 = .ok (.aload_n 0, 1) := by decide +kernel
theorem dX5_passAll_175 : decode cX5_passAll 175 = .ok (.getfield 19, 3) := by decide +kernel
theorem dX5_passAll_178 : decode cX5_passAll 178 = .ok (.iload_n 1, 1) := by decide +kernel
theorem dX5_passAll_179 : decode cX5_passAll 179 = .ok (.aload_n 0, 1) := by decide +kernel
theorem dX5_passAll_180 : decode cX5_passAll 180 = .ok (.aload_n 0, 1) := by decide +kernel
theorem dX5_passAll_181 : decode cX5_passAll 181 = .ok (.getfield 19, 3) := by decide +kernel
theorem dX5_passAll_184 : decode cX5_passAll 184 = .ok (.iload_n 1, 1) := by decide +kernel
theorem dX5_passAll_185 : decode cX5_passAll 185 = .ok (.iaload, 1) := by decide +kernel
theorem dX5_passAll_186 : decode cX5_passAll 186 = .ok (.invokevirtual 212, 3) := by decide +kernel
theorem dX5_passAll_189 : decode cX5_passAll 189 = .ok (.iastore, 1) := by decide +kernel
theorem dX5_passAll_190 : decode cX5_passAll 190 = .ok (.iinc 1 1, 3) := by decide +kernel
theorem dX5_passAll_193 : decode cX5_passAll 193 = .ok (.goto (-25), 3) := by decide +kernel
theorem dX5_passAll_196 : decode cX5_passAll 196 = .ok (.return_, 1) := by decide +kernel
set_option maxRecDepth 20000 in
theorem ggX5_image_X5_in : GoodIn wsX5_image wsX5_in := goodIn_r _ [7] (by decide +kernel) (by decide +kernel)
set_option maxRecDepth 20000 in
theorem gX5_image_X5_in : GoodIn wsX5_image (va_wsS RX5 53 yX5_in wsX5_in) := goodIn_app (goodIn_of _ (by decide +kernel)) ggX5_image_X5_in
set_option maxRecDepth 20000 in
theorem ggX5_image_X5_passAll : GoodIn wsX5_image wsX5_passAll := goodIn_r _ [11, 12, 13, 14, 15, 16, 17, 18, 19, 20, 21, 22, 23, 24, 25, 26, 6, 27, 2, 28, 1, 29, 30, 31, 32, 33, 34, 35, 36, 37, 38, 39, 40, 41, 42, 43, 44, 45, 46, 47, 48, 49, 50, 51, 52] (by decide +kernel) (by decide +kernel)
set_option maxRecDepth 20000 in
theorem gX5_image_X5_passAll : GoodIn wsX5_image (wsV RX5 215 RX5 yX5_passAll wsX5_passAll) := goodIn_app (goodIn_of _ (by decide +kernel)) ggX5_image_X5_passAll
theorem dX5_image_0 : decode cX5_image 0 = .ok (.iload_n 1, 1) := by decide +kernel
theorem dX5_image_1 : decode cX5_image 1 = .ok (.i2l, 1) := by decide +kernel
theorem dX5_image_2 : decode cX5_image 2 = .ok (.lconst 0, 1) := by decide +kernel
theorem dX5_image_3 : decode cX5_image 3 = .ok (.lconst 1, 1) := by decide +kernel
theorem dX5_image_4 : decode cX5_image 4 = .ok (.invokestatic 53, 3) := by decide +kernel
theorem dX5_image_7 : decode cX5_image 7 = .ok (.ifCond .ne 6, 3) := by decide +kernel
theorem dX5_image_10 : decode cX5_image 10 = .ok (.bipush (-2), 2) := by decide +kernel
theorem dX5_image_12 : decode cX5_image 12 = .ok (.ireturn, 1) := by decide +kernel
theorem dX5_image_13 : decode cX5_image 13 = .ok (.aload_n 0, 1) := by decide +kernel
theorem dX5_image_14 : decode cX5_image 14 = .ok (.bipush 80, 2) := by decide +kernel
theorem dX5_image_16 : decode cX5_image 16 = .ok (.iload_n 1, 1) := by decide +kernel
theorem dX5_image_17 : decode cX5_image 17 = .ok (.imul, 1) := by decide +kernel
theorem dX5_image_18 : decode cX5_image 18 = .ok (.putfield 209, 3) := by decide +kernel
theorem dX5_image_21 : decode cX5_image 21 = .ok (.aload_n 0, 1) := by decide +kernel
theorem dX5_image_22 : decode cX5_image 22 = .ok (.iconst 1, 1) := by decide +kernel
theorem dX5_image_23 : decode cX5_image 23 = .ok (.putfield 205, 3) := by decide +kernel
theorem dX5_image_26 : decode cX5_image 26 = .ok (.aload_n 0, 1) := by decide +kernel
theorem dX5_image_27 : decode cX5_image 27 = .ok (.invokevirtual 215, 3) := by decide +kernel
theorem dX5_image_30 : decode cX5_image 30 = .ok (.aload_n 0, 1) := by decide +kernel
theorem dX5_image_31 : decode cX5_image 31 = .ok (.getfield 40, 3) := by decide +kernel
theorem dX5_image_34 : decode cX5_image 34 = .ok (.iload_n 1, 1) := by decide +kernel
theorem dX5_image_35 : decode cX5_image 35 = .ok (.iconst 1, 1) := by decide +kernel
theorem dX5_image_36 : decode cX5_image 36 = .ok (.bastore, 1) := by decide +kernel
theorem dX5_image_37 : decode cX5_image 37 = .ok (.iconst 1, 1) := by decide +kernel
theorem dX5_image_38 : decode cX5_image 38 = .ok (.ireturn, 1) := by decide +kernel
set_option maxRecDepth 20000 in
theorem ggX5_restore_X5_in : GoodIn wsX5_restore wsX5_in := goodIn_r _ [7] (by decide +kernel) (by decide +kernel)
set_option maxRecDepth 20000 in
theorem gX5_restore_X5_in : GoodIn wsX5_restore (va_wsS RX5 53 yX5_in wsX5_in) := goodIn_app (goodIn_of _ (by decide +kernel)) ggX5_restore_X5_in
set_option maxRecDepth 20000 in
theorem ggX5_restore_X5_passAll : GoodIn wsX5_restore wsX5_passAll := goodIn_r _ [11, 12, 13, 14, 15, 16, 17, 18, 19, 20, 21, 22, 23, 24, 25, 26, 6, 27, 3, 28, 2, 29, 30, 31, 32, 33, 34, 35, 36, 37, 38, 39, 40, 41, 42, 43, 44, 45, 46, 47, 48, 49, 50, 51, 52] (by decide +kernel) (by decide +kernel)
set_option maxRecDepth 20000 in
theorem gX5_restore_X5_passAll : GoodIn wsX5_restore (wsV RX5 215 RX5 yX5_passAll wsX5_passAll) := goodIn_app (goodIn_of _ (by decide +kernel)) ggX5_restore_X5_passAll
theorem dX5_restore_0 : decode cX5_restore 0 = .ok (.iload_n 1, 1) := by decide +kernel
theorem dX5_restore_1 : decode cX5_restore 1 = .ok (.i2l, 1) := by decide +kernel
theorem dX5_restore_2 : decode cX5_restore 2 = .ok (.lconst 0, 1) := by decide +kernel
theorem dX5_restore_3 : decode cX5_restore 3 = .ok (.lconst 1, 1) := by decide +kernel
theorem dX5_restore_4 : decode cX5_restore 4 = .ok (.invokestatic 53, 3) := by decide +kernel
theorem dX5_restore_7 : decode cX5_restore 7 = .ok (.ifCond .ne 6, 3) := by decide +kernel
theorem dX5_restore_10 : decode cX5_restore 10 = .ok (.bipush (-2), 2) := by decide +kernel
theorem dX5_restore_12 : decode cX5_restore 12 = .ok (.ireturn, 1) := by decide +kernel
theorem dX5_restore_13 : decode cX5_restore 13 = .ok (.aload_n 0, 1) := by decide +kernel
theorem dX5_restore_14 : decode cX5_restore 14 = .ok (.getfield 40, 3) := by decide +kernel
theorem dX5_restore_17 : decode cX5_restore 17 = .ok (.iload_n 1, 1) := by decide +kernel
theorem dX5_restore_18 : decode cX5_restore 18 = .ok (.baload, 1) := by decide +kernel
theorem dX5_restore_19 : decode cX5_restore 19 = .ok (.ifCond .ne 6, 3) := by decide +kernel
theorem dX5_restore_22 : decode cX5_restore 22 = .ok (.bipush (-3), 2) := by decide +kernel
theorem dX5_restore_24 : decode cX5_restore 24 = .ok (.ireturn, 1) := by decide +kernel
theorem dX5_restore_25 : decode cX5_restore 25 = .ok (.aload_n 0, 1) := by decide +kernel
theorem dX5_restore_26 : decode cX5_restore 26 = .ok (.bipush 80, 2) := by decide +kernel
theorem dX5_restore_28 : decode cX5_restore 28 = .ok (.iload_n 1, 1) := by decide +kernel
theorem dX5_restore_29 : decode cX5_restore 29 = .ok (.imul, 1) := by decide +kernel
theorem dX5_restore_30 : decode cX5_restore 30 = .ok (.putfield 209, 3) := by decide +kernel
theorem dX5_restore_33 : decode cX5_restore 33 = .ok (.aload_n 0, 1) := by decide +kernel
theorem dX5_restore_34 : decode cX5_restore 34 = .ok (.iconst 0, 1) := by decide +kernel
theorem dX5_restore_35 : decode cX5_restore 35 = .ok (.putfield 205, 3) := by decide +kernel
theorem dX5_restore_38 : decode cX5_restore 38 = .ok (.aload_n 0, 1) := by decide +kernel
theorem dX5_restore_39 : decode cX5_restore 39 = .ok (.invokevirtual 215, 3) := by decide +kernel
theorem dX5_restore_42 : decode cX5_restore 42 = .ok (.iconst 1, 1) := by decide +kernel
theorem dX5_restore_43 : decode cX5_restore 43 = .ok (.ireturn, 1) := by decide +kernel
set_option maxRecDepth 20000 in
theorem ggX5_told_X5_in : GoodIn wsX5_told wsX5_in := goodIn_r _ [19] (by decide +kernel) (by decide +kernel)
set_option maxRecDepth 20000 in
theorem gX5_told_X5_in : GoodIn wsX5_told (va_wsS RX5 53 yX5_in wsX5_in) := goodIn_app (goodIn_of _ (by decide +kernel)) ggX5_told_X5_in
set_option maxRecDepth 20000 in
theorem ggX5_told_X5_isThere : GoodIn wsX5_told wsX5_isThere := goodIn_r _ [23, 11, 24, 25, 18, 26, 27, 16, 17, 19, 28, 29, 30, 31, 32, 33, 34, 35, 36, 37, 38, 39, 40, 41, 42, 43, 44, 45, 46, 47, 48, 49, 50, 51] (by decide +kernel) (by decide +kernel)
set_option maxRecDepth 20000 in
theorem gX5_told_X5_isThere : GoodIn wsX5_told (wsV RX5 76 RX5 yX5_isThere wsX5_isThere) := goodIn_app (goodIn_of _ (by decide +kernel)) ggX5_told_X5_isThere
theorem dX5_told_0 : decode cX5_told 0 = .ok (.iload_n 1, 1) := by decide +kernel
theorem dX5_told_1 : decode cX5_told 1 = .ok (.i2l, 1) := by decide +kernel
theorem dX5_told_2 : decode cX5_told 2 = .ok (.ldc2_w 218, 3) := by decide +kernel
theorem dX5_told_5 : decode cX5_told 5 = .ok (.ldc2_w 220, 3) := by decide +kernel
theorem dX5_told_8 : decode cX5_told 8 = .ok (.invokestatic 53, 3) := by decide +kernel
theorem dX5_told_11 : decode cX5_told 11 = .ok (.ifCond .eq 13, 3) := by decide +kernel
theorem dX5_told_14 : decode cX5_told 14 = .ok (.aload_n 0, 1) := by decide +kernel
theorem dX5_told_15 : decode cX5_told 15 = .ok (.getfield 19, 3) := by decide +kernel
theorem dX5_told_18 : decode cX5_told 18 = .ok (.iload_n 1, 1) := by decide +kernel
theorem dX5_told_19 : decode cX5_told 19 = .ok (.bipush 10, 2) := by decide +kernel
theorem dX5_told_21 : decode cX5_told 21 = .ok (.isub, 1) := by decide +kernel
theorem dX5_told_22 : decode cX5_told 22 = .ok (.iaload, 1) := by decide +kernel
theorem dX5_told_23 : decode cX5_told 23 = .ok (.ireturn, 1) := by decide +kernel
theorem dX5_told_24 : decode cX5_told 24 = .ok (.iload_n 1, 1) := by decide +kernel
theorem dX5_told_25 : decode cX5_told 25 = .ok (.i2l, 1) := by decide +kernel
theorem dX5_told_26 : decode cX5_told 26 = .ok (.ldc2_w 222, 3) := by decide +kernel
theorem dX5_told_29 : decode cX5_told 29 = .ok (.ldc2_w 224, 3) := by decide +kernel
theorem dX5_told_32 : decode cX5_told 32 = .ok (.invokestatic 53, 3) := by decide +kernel
theorem dX5_told_35 : decode cX5_told 35 = .ok (.ifCond .eq 95, 3) := by decide +kernel
theorem dX5_told_38 : decode cX5_told 38 = .ok (.iload_n 1, 1) := by decide +kernel
theorem dX5_told_39 : decode cX5_told 39 = .ok (.bipush 10, 2) := by decide +kernel
theorem dX5_told_41 : decode cX5_told 41 = .ok (.idiv, 1) := by decide +kernel
theorem dX5_told_42 : decode cX5_told 42 = .ok (.iconst 2, 1) := by decide +kernel
theorem dX5_told_43 : decode cX5_told 43 = .ok (.isub, 1) := by decide +kernel
theorem dX5_told_44 : decode cX5_told 44 = .ok (.istore_n 2, 1) := by decide +kernel
theorem dX5_told_45 : decode cX5_told 45 = .ok (.iload_n 1, 1) := by decide +kernel
theorem dX5_told_46 : decode cX5_told 46 = .ok (.bipush 10, 2) := by decide +kernel
theorem dX5_told_48 : decode cX5_told 48 = .ok (.irem, 1) := by decide +kernel
theorem dX5_told_49 : decode cX5_told 49 = .ok (.istore_n 3, 1) := by decide +kernel
theorem dX5_told_50 : decode cX5_told 50 = .ok (.aload_n 0, 1) := by decide +kernel
theorem dX5_told_51 : decode cX5_told 51 = .ok (.iload_n 2, 1) := by decide +kernel
theorem dX5_told_52 : decode cX5_told 52 = .ok (.invokevirtual 76, 3) := by decide +kernel
theorem dX5_told_55 : decode cX5_told 55 = .ok (.ifCond .eq 12, 3) := by decide +kernel
theorem dX5_told_58 : decode cX5_told 58 = .ok (.iload_n 3, 1) := by decide +kernel
theorem dX5_told_59 : decode cX5_told 59 = .ok (.iconst 4, 1) := by decide +kernel
theorem dX5_told_60 : decode cX5_told 60 = .ok (.if_icmp .ge 7, 3) := by decide +kernel
theorem dX5_told_63 : decode cX5_told 63 = .ok (.iconst 1, 1) := by decide +kernel
theorem dX5_told_64 : decode cX5_told 64 = .ok (.goto 4, 3) := by decide +kernel
theorem dX5_told_67 : decode cX5_told 67 = .ok (.iconst 0, 1) := by decide +kernel
theorem dX5_told_68 : decode cX5_told 68 = .ok (.istore 4, 2) := by decide +kernel
theorem dX5_told_70 : decode cX5_told 70 = .ok (.iload 4, 2) := by decide +kernel
theorem dX5_told_72 : decode cX5_told 72 = .ok (.ifCond .ne 8, 3) := by decide +kernel
theorem dX5_told_75 : decode cX5_told 75 = .ok (.bipush (-2), 2) := by decide +kernel
theorem dX5_told_77 : decode cX5_told 77 = .ok (.goto 52, 3) := by decide +kernel
theorem dX5_told_80 : decode cX5_told 80 = .ok (.iload_n 3, 1) := by decide +kernel
theorem dX5_told_81 : decode cX5_told 81 = .ok (.ifCond .ne 12, 3) := by decide +kernel
theorem dX5_told_84 : decode cX5_told 84 = .ok (.aload_n 0, 1) := by decide +kernel
theorem dX5_told_85 : decode cX5_told 85 = .ok (.getfield 7, 3) := by decide +kernel
theorem dX5_told_88 : decode cX5_told 88 = .ok (.iload_n 2, 1) := by decide +kernel
theorem dX5_told_89 : decode cX5_told 89 = .ok (.iaload, 1) := by decide +kernel
theorem dX5_told_90 : decode cX5_told 90 = .ok (.goto 39, 3) := by decide +kernel
theorem dX5_told_93 : decode cX5_told 93 = .ok (.iload_n 3, 1) := by decide +kernel
theorem dX5_told_94 : decode cX5_told 94 = .ok (.iconst 1, 1) := by decide +kernel
theorem dX5_told_95 : decode cX5_told 95 = .ok (.if_icmp .ne 12, 3) := by decide +kernel
theorem dX5_told_98 : decode cX5_told 98 = .ok (.aload_n 0, 1) := by decide +kernel
theorem dX5_told_99 : decode cX5_told 99 = .ok (.getfield 13, 3) := by decide +kernel
theorem dX5_told_102 : decode cX5_told 102 = .ok (.iload_n 2, 1) := by decide +kernel
theorem dX5_told_103 : decode cX5_told 103 = .ok (.iaload, 1) := by decide +kernel
theorem dX5_told_104 : decode cX5_told 104 = .ok (.goto 25, 3) := by decide +kernel
theorem dX5_told_107 : decode cX5_told 107 = .ok (.iload_n 3, 1) := by decide +kernel
theorem dX5_told_108 : decode cX5_told 108 = .ok (.iconst 2, 1) := by decide +kernel
theorem dX5_told_109 : decode cX5_told 109 = .ok (.if_icmp .ne 12, 3) := by decide +kernel
theorem dX5_told_112 : decode cX5_told 112 = .ok (.aload_n 0, 1) := by decide +kernel
theorem dX5_told_113 : decode cX5_told 113 = .ok (.getfield 16, 3) := by decide +kernel
theorem dX5_told_116 : decode cX5_told 116 = .ok (.iload_n 2, 1) := by decide +kernel
theorem dX5_told_117 : decode cX5_told 117 = .ok (.iaload, 1) := by decide +kernel
theorem dX5_told_118 : decode cX5_told 118 = .ok (.goto 11, 3) := by decide +kernel
theorem dX5_told_121 : decode cX5_told 121 = .ok (.aload_n 0, 1) := by decide +kernel
theorem dX5_told_122 : decode cX5_told 122 = .ok (.getfield 69, 3) := by decide +kernel
theorem dX5_told_125 : decode cX5_told 125 = .ok (.iload_n 2, 1) := by decide +kernel
theorem dX5_told_126 : decode cX5_told 126 = .ok (.ishr, 1) := by decide +kernel
theorem dX5_told_127 : decode cX5_told 127 = .ok (.iconst 1, 1) := by decide +kernel
theorem dX5_told_128 : decode cX5_told 128 = .ok (.iand, 1) := by decide +kernel
theorem dX5_told_129 : decode cX5_told 129 = .ok (.ireturn, 1) := by decide +kernel
theorem dX5_told_130 : decode cX5_told 130 = .ok (.iload_n 1, 1) := by decide +kernel
theorem dX5_told_131 : decode cX5_told 131 = .ok (.tableswitch 67 0 5 #[37, 42, 47, 52, 57, 62], 37) := by decide +kernel
theorem dX5_told_168 : decode cX5_told 168 = .ok (.aload_n 0, 1) := by decide +kernel
theorem dX5_told_169 : decode cX5_told 169 = .ok (.getfield 86, 3) := by decide +kernel
theorem dX5_told_172 : decode cX5_told 172 = .ok (.ireturn, 1) := by decide +kernel
theorem dX5_told_173 : decode cX5_told 173 = .ok (.aload_n 0, 1) := by decide +kernel
theorem dX5_told_174 : decode cX5_told 174 = .ok (.getfield 63, 3) := by decide +kernel
theorem dX5_told_177 : decode cX5_told 177 = .ok (.ireturn, 1) := by decide +kernel
theorem dX5_told_178 : decode cX5_told 178 = .ok (.aload_n 0, 1) := by decide +kernel
theorem dX5_told_179 : decode cX5_told 179 = .ok (.getfield 44, 3) := by decide +kernel
theorem dX5_told_182 : decode cX5_told 182 = .ok (.ireturn, 1) := by decide +kernel
theorem dX5_told_183 : decode cX5_told 183 = .ok (.aload_n 0, 1) := by decide +kernel
theorem dX5_told_184 : decode cX5_told 184 = .ok (.getfield 48, 3) := by decide +kernel
theorem dX5_told_187 : decode cX5_told 187 = .ok (.ireturn, 1) := by decide +kernel
theorem dX5_told_188 : decode cX5_told 188 = .ok (.aload_n 0, 1) := by decide +kernel
theorem dX5_told_189 : decode cX5_told 189 = .ok (.getfield 79, 3) := by decide +kernel
theorem dX5_told_192 : decode cX5_told 192 = .ok (.ireturn, 1) := by decide +kernel
theorem dX5_told_193 : decode cX5_told 193 = .ok (.aload_n 0, 1) := by decide +kernel
theorem dX5_told_194 : decode cX5_told 194 = .ok (.getfield 189, 3) := by decide +kernel
theorem dX5_told_197 : decode cX5_told 197 = .ok (.ireturn, 1) := by decide +kernel
theorem dX5_told_198 : decode cX5_told 198 = .ok (.bipush (-2), 2) := by decide +kernel
theorem dX5_told_200 : decode cX5_told 200 = .ok (.ireturn, 1) := by decide +kernel
theorem dJ6_bitCount_0f7a4_0 : decode cJ6_bitCount_0f7a4 0 = .ok (.iload_n 0, 1) := by decide +kernel
theorem dJ6_bitCount_0f7a4_1 : decode cJ6_bitCount_0f7a4 1 = .ok (.iload_n 0, 1) := by decide +kernel
theorem dJ6_bitCount_0f7a4_2 : decode cJ6_bitCount_0f7a4 2 = .ok (.iconst 1, 1) := by decide +kernel
theorem dJ6_bitCount_0f7a4_3 : decode cJ6_bitCount_0f7a4 3 = .ok (.iushr, 1) := by decide +kernel
theorem dJ6_bitCount_0f7a4_4 : decode cJ6_bitCount_0f7a4 4 = .ok (.ldc_w 265, 3) := by decide +kernel
theorem dJ6_bitCount_0f7a4_7 : decode cJ6_bitCount_0f7a4 7 = .ok (.iand, 1) := by decide +kernel
theorem dJ6_bitCount_0f7a4_8 : decode cJ6_bitCount_0f7a4 8 = .ok (.isub, 1) := by decide +kernel
theorem dJ6_bitCount_0f7a4_9 : decode cJ6_bitCount_0f7a4 9 = .ok (.istore_n 0, 1) := by decide +kernel
theorem dJ6_bitCount_0f7a4_10 : decode cJ6_bitCount_0f7a4 10 = .ok (.iload_n 0, 1) := by decide +kernel
theorem dJ6_bitCount_0f7a4_11 : decode cJ6_bitCount_0f7a4 11 = .ok (.ldc_w 266, 3) := by decide +kernel
theorem dJ6_bitCount_0f7a4_14 : decode cJ6_bitCount_0f7a4 14 = .ok (.iand, 1) := by decide +kernel
theorem dJ6_bitCount_0f7a4_15 : decode cJ6_bitCount_0f7a4 15 = .ok (.iload_n 0, 1) := by decide +kernel
theorem dJ6_bitCount_0f7a4_16 : decode cJ6_bitCount_0f7a4 16 = .ok (.iconst 2, 1) := by decide +kernel
theorem dJ6_bitCount_0f7a4_17 : decode cJ6_bitCount_0f7a4 17 = .ok (.iushr, 1) := by decide +kernel
theorem dJ6_bitCount_0f7a4_18 : decode cJ6_bitCount_0f7a4 18 = .ok (.ldc_w 266, 3) := by decide +kernel
theorem dJ6_bitCount_0f7a4_21 : decode cJ6_bitCount_0f7a4 21 = .ok (.iand, 1) := by decide +kernel
theorem dJ6_bitCount_0f7a4_22 : decode cJ6_bitCount_0f7a4 22 = .ok (.iadd, 1) := by decide +kernel
theorem dJ6_bitCount_0f7a4_23 : decode cJ6_bitCount_0f7a4 23 = .ok (.istore_n 0, 1) := by decide +kernel
theorem dJ6_bitCount_0f7a4_24 : decode cJ6_bitCount_0f7a4 24 = .ok (.iload_n 0, 1) := by decide +kernel
theorem dJ6_bitCount_0f7a4_25 : decode cJ6_bitCount_0f7a4 25 = .ok (.iload_n 0, 1) := by decide +kernel
theorem dJ6_bitCount_0f7a4_26 : decode cJ6_bitCount_0f7a4 26 = .ok (.iconst 4, 1) := by decide +kernel
theorem dJ6_bitCount_0f7a4_27 : decode cJ6_bitCount_0f7a4 27 = .ok (.iushr, 1) := by decide +kernel
theorem dJ6_bitCount_0f7a4_28 : decode cJ6_bitCount_0f7a4 28 = .ok (.iadd, 1) := by decide +kernel
theorem dJ6_bitCount_0f7a4_29 : decode cJ6_bitCount_0f7a4 29 = .ok (.ldc_w 267, 3) := by decide +kernel
theorem dJ6_bitCount_0f7a4_32 : decode cJ6_bitCount_0f7a4 32 = .ok (.iand, 1) := by decide +kernel
theorem dJ6_bitCount_0f7a4_33 : decode cJ6_bitCount_0f7a4 33 = .ok (.istore_n 0, 1) := by decide +kernel
theorem dJ6_bitCount_0f7a4_34 : decode cJ6_bitCount_0f7a4 34 = .ok (.iload_n 0, 1) := by decide +kernel
theorem dJ6_bitCount_0f7a4_35 : decode cJ6_bitCount_0f7a4 35 = .ok (.iload_n 0, 1) := by decide +kernel
theorem dJ6_bitCount_0f7a4_36 : decode cJ6_bitCount_0f7a4 36 = .ok (.bipush 8, 2) := by decide +kernel
theorem dJ6_bitCount_0f7a4_38 : decode cJ6_bitCount_0f7a4 38 = .ok (.iushr, 1) := by decide +kernel
theorem dJ6_bitCount_0f7a4_39 : decode cJ6_bitCount_0f7a4 39 = .ok (.iadd, 1) := by decide +kernel
theorem dJ6_bitCount_0f7a4_40 : decode cJ6_bitCount_0f7a4 40 = .ok (.istore_n 0, 1) := by decide +kernel
theorem dJ6_bitCount_0f7a4_41 : decode cJ6_bitCount_0f7a4 41 = .ok (.iload_n 0, 1) := by decide +kernel
theorem dJ6_bitCount_0f7a4_42 : decode cJ6_bitCount_0f7a4 42 = .ok (.iload_n 0, 1) := by decide +kernel
theorem dJ6_bitCount_0f7a4_43 : decode cJ6_bitCount_0f7a4 43 = .ok (.bipush 16, 2) := by decide +kernel
theorem dJ6_bitCount_0f7a4_45 : decode cJ6_bitCount_0f7a4 45 = .ok (.iushr, 1) := by decide +kernel
theorem dJ6_bitCount_0f7a4_46 : decode cJ6_bitCount_0f7a4 46 = .ok (.iadd, 1) := by decide +kernel
theorem dJ6_bitCount_0f7a4_47 : decode cJ6_bitCount_0f7a4 47 = .ok (.istore_n 0, 1) := by decide +kernel
theorem dJ6_bitCount_0f7a4_48 : decode cJ6_bitCount_0f7a4 48 = .ok (.iload_n 0, 1) := by decide +kernel
theorem dJ6_bitCount_0f7a4_49 : decode cJ6_bitCount_0f7a4 49 = .ok (.bipush 63, 2) := by decide +kernel
theorem dJ6_bitCount_0f7a4_51 : decode cJ6_bitCount_0f7a4 51 = .ok (.iand, 1) := by decide +kernel
theorem dJ6_bitCount_0f7a4_52 : decode cJ6_bitCount_0f7a4 52 = .ok (.ireturn, 1) := by decide +kernel
theorem dJ9_abs_0f7a4_0 : decode cJ9_abs_0f7a4 0 = .ok (.iload_n 0, 1) := by decide +kernel
theorem dJ9_abs_0f7a4_1 : decode cJ9_abs_0f7a4 1 = .ok (.ifCond .ge 8, 3) := by decide +kernel
theorem dJ9_abs_0f7a4_4 : decode cJ9_abs_0f7a4 4 = .ok (.iload_n 0, 1) := by decide +kernel
theorem dJ9_abs_0f7a4_5 : decode cJ9_abs_0f7a4 5 = .ok (.ineg, 1) := by decide +kernel
theorem dJ9_abs_0f7a4_6 : decode cJ9_abs_0f7a4 6 = .ok (.goto 4, 3) := by decide +kernel
theorem dJ9_abs_0f7a4_9 : decode cJ9_abs_0f7a4 9 = .ok (.iload_n 0, 1) := by decide +kernel
theorem dJ9_abs_0f7a4_10 : decode cJ9_abs_0f7a4 10 = .ok (.ireturn, 1) := by decide +kernel
theorem dJ9_max_7cf53_0 : decode cJ9_max_7cf53 0 = .ok (.iload_n 0, 1) := by decide +kernel
theorem dJ9_max_7cf53_1 : decode cJ9_max_7cf53 1 = .ok (.iload_n 1, 1) := by decide +kernel
theorem dJ9_max_7cf53_2 : decode cJ9_max_7cf53 2 = .ok (.if_icmp .lt 7, 3) := by decide +kernel
theorem dJ9_max_7cf53_5 : decode cJ9_max_7cf53 5 = .ok (.iload_n 0, 1) := by decide +kernel
theorem dJ9_max_7cf53_6 : decode cJ9_max_7cf53 6 = .ok (.goto 4, 3) := by decide +kernel
theorem dJ9_max_7cf53_9 : decode cJ9_max_7cf53 9 = .ok (.iload_n 1, 1) := by decide +kernel
theorem dJ9_max_7cf53_10 : decode cJ9_max_7cf53 10 = .ok (.ireturn, 1) := by decide +kernel
theorem dJ9_min_7cf53_0 : decode cJ9_min_7cf53 0 = .ok (.iload_n 0, 1) := by decide +kernel
theorem dJ9_min_7cf53_1 : decode cJ9_min_7cf53 1 = .ok (.iload_n 1, 1) := by decide +kernel
theorem dJ9_min_7cf53_2 : decode cJ9_min_7cf53 2 = .ok (.if_icmp .gt 7, 3) := by decide +kernel
theorem dJ9_min_7cf53_5 : decode cJ9_min_7cf53 5 = .ok (.iload_n 0, 1) := by decide +kernel
theorem dJ9_min_7cf53_6 : decode cJ9_min_7cf53 6 = .ok (.goto 4, 3) := by decide +kernel
theorem dJ9_min_7cf53_9 : decode cJ9_min_7cf53 9 = .ok (.iload_n 1, 1) := by decide +kernel
theorem dJ9_min_7cf53_10 : decode cJ9_min_7cf53 10 = .ok (.ireturn, 1) := by decide +kernel
theorem dJ7_fill_53178_0 : decode cJ7_fill_53178 0 = .ok (.iconst 0, 1) := by decide +kernel
theorem dJ7_fill_53178_1 : decode cJ7_fill_53178 1 = .ok (.istore_n 2, 1) := by decide +kernel
theorem dJ7_fill_53178_2 : decode cJ7_fill_53178 2 = .ok (.aload_n 0, 1) := by decide +kernel
theorem dJ7_fill_53178_3 : decode cJ7_fill_53178 3 = .ok (.arraylength, 1) := by decide +kernel
theorem dJ7_fill_53178_4 : decode cJ7_fill_53178 4 = .ok (.istore_n 3, 1) := by decide +kernel
theorem dJ7_fill_53178_5 : decode cJ7_fill_53178 5 = .ok (.iload_n 2, 1) := by decide +kernel
theorem dJ7_fill_53178_6 : decode cJ7_fill_53178 6 = .ok (.iload_n 3, 1) := by decide +kernel
theorem dJ7_fill_53178_7 : decode cJ7_fill_53178 7 = .ok (.if_icmp .ge 13, 3) := by decide +kernel
theorem dJ7_fill_53178_10 : decode cJ7_fill_53178 10 = .ok (.aload_n 0, 1) := by decide +kernel
theorem dJ7_fill_53178_11 : decode cJ7_fill_53178 11 = .ok (.iload_n 2, 1) := by decide +kernel
theorem dJ7_fill_53178_12 : decode cJ7_fill_53178 12 = .ok (.iload_n 1, 1) := by decide +kernel
theorem dJ7_fill_53178_13 : decode cJ7_fill_53178 13 = .ok (.iastore, 1) := by decide +kernel
theorem dJ7_fill_53178_14 : decode cJ7_fill_53178 14 = .ok (.iinc 2 1, 3) := by decide +kernel
theorem dJ7_fill_53178_17 : decode cJ7_fill_53178 17 = .ok (.goto (-12), 3) := by decide +kernel
theorem dJ7_fill_53178_20 : decode cJ7_fill_53178 20 = .ok (.return_, 1) := by decide +kernel
end
section
theorem dL_law_0 : decode cL_law 0 = .ok (.new 7, 3) := by decide +kernel
theorem dL_law_3 : decode cL_law 3 = .ok (.dup, 1) := by decide +kernel
theorem dL_law_4 : decode cL_law 4 = .ok (.invokespecial 9, 3) := by decide +kernel
theorem dL_law_7 : decode cL_law 7 = .ok (.astore_n 1, 1) := by decide +kernel
theorem dL_law_8 : decode cL_law 8 = .ok (.new 10, 3) := by decide +kernel
theorem dL_law_11 : decode cL_law 11 = .ok (.dup, 1) := by decide +kernel
theorem dL_law_12 : decode cL_law 12 = .ok (.invokespecial 12, 3) := by decide +kernel
theorem dL_law_15 : decode cL_law 15 = .ok (.astore_n 2, 1) := by decide +kernel
theorem dL_law_16 : decode cL_law 16 = .ok (.iconst 0, 1) := by decide +kernel
theorem dL_law_17 : decode cL_law 17 = .ok (.istore_n 3, 1) := by decide +kernel
theorem dL_law_18 : decode cL_law 18 = .ok (.iload_n 3, 1) := by decide +kernel
theorem dL_law_19 : decode cL_law 19 = .ok (.aload_n 0, 1) := by decide +kernel
theorem dL_law_20 : decode cL_law 20 = .ok (.arraylength, 1) := by decide +kernel
theorem dL_law_21 : decode cL_law 21 = .ok (.bipush 6, 2) := by decide +kernel
theorem dL_law_23 : decode cL_law 23 = .ok (.isub, 1) := by decide +kernel
theorem dL_law_24 : decode cL_law 24 = .ok (.if_icmp .gt 876, 3) := by decide +kernel
theorem dL_law_27 : decode cL_law 27 = .ok (.aload_n 0, 1) := by decide +kernel
theorem dL_law_28 : decode cL_law 28 = .ok (.iload_n 3, 1) := by decide +kernel
theorem dL_law_29 : decode cL_law 29 = .ok (.iaload, 1) := by decide +kernel
theorem dL_law_30 : decode cL_law 30 = .ok (.bipush 31, 2) := by decide +kernel
theorem dL_law_32 : decode cL_law 32 = .ok (.iand, 1) := by decide +kernel
theorem dL_law_33 : decode cL_law 33 = .ok (.tableswitch 861 0 25 #[119, 198, 221, 270, 303, 326, 339, 352, 385, 418, 431, 454, 477, 510, 544, 567, 601, 624, 647, 690, 723, 736, 749, 792, 815, 838], 119) := by decide +kernel
theorem dL_law_152 : decode cL_law 152 = .ok (.aload_n 1, 1) := by decide +kernel
theorem dL_law_153 : decode cL_law 153 = .ok (.aload_n 0, 1) := by decide +kernel
theorem dL_law_154 : decode cL_law 154 = .ok (.iload_n 3, 1) := by decide +kernel
theorem dL_law_155 : decode cL_law 155 = .ok (.iconst 1, 1) := by decide +kernel
theorem dL_law_156 : decode cL_law 156 = .ok (.iadd, 1) := by decide +kernel
theorem dL_law_157 : decode cL_law 157 = .ok (.iaload, 1) := by decide +kernel
theorem dL_law_158 : decode cL_law 158 = .ok (.aload_n 0, 1) := by decide +kernel
theorem dL_law_159 : decode cL_law 159 = .ok (.iload_n 3, 1) := by decide +kernel
theorem dL_law_160 : decode cL_law 160 = .ok (.iconst 2, 1) := by decide +kernel
theorem dL_law_161 : decode cL_law 161 = .ok (.iadd, 1) := by decide +kernel
theorem dL_law_162 : decode cL_law 162 = .ok (.iaload, 1) := by decide +kernel
theorem dL_law_163 : decode cL_law 163 = .ok (.aload_n 0, 1) := by decide +kernel
theorem dL_law_164 : decode cL_law 164 = .ok (.iload_n 3, 1) := by decide +kernel
theorem dL_law_165 : decode cL_law 165 = .ok (.iconst 3, 1) := by decide +kernel
theorem dL_law_166 : decode cL_law 166 = .ok (.iadd, 1) := by decide +kernel
theorem dL_law_167 : decode cL_law 167 = .ok (.iaload, 1) := by decide +kernel
theorem dL_law_168 : decode cL_law 168 = .ok (.aload_n 0, 1) := by decide +kernel
theorem dL_law_169 : decode cL_law 169 = .ok (.iload_n 3, 1) := by decide +kernel
theorem dL_law_170 : decode cL_law 170 = .ok (.iconst 4, 1) := by decide +kernel
theorem dL_law_171 : decode cL_law 171 = .ok (.iadd, 1) := by decide +kernel
theorem dL_law_172 : decode cL_law 172 = .ok (.iaload, 1) := by decide +kernel
theorem dL_law_173 : decode cL_law 173 = .ok (.aload_n 0, 1) := by decide +kernel
theorem dL_law_174 : decode cL_law 174 = .ok (.iload_n 3, 1) := by decide +kernel
theorem dL_law_175 : decode cL_law 175 = .ok (.iconst 5, 1) := by decide +kernel
theorem dL_law_176 : decode cL_law 176 = .ok (.iadd, 1) := by decide +kernel
theorem dL_law_177 : decode cL_law 177 = .ok (.iaload, 1) := by decide +kernel
theorem dL_law_178 : decode cL_law 178 = .ok (.ifCond .eq 7, 3) := by decide +kernel
theorem dL_law_181 : decode cL_law 181 = .ok (.iconst 1, 1) := by decide +kernel
theorem dL_law_182 : decode cL_law 182 = .ok (.goto 4, 3) := by decide +kernel
theorem dL_law_185 : decode cL_law 185 = .ok (.iconst 0, 1) := by decide +kernel
theorem dL_law_186 : decode cL_law 186 = .ok (.invokevirtual 13, 3) := by decide +kernel
theorem dL_law_189 : decode cL_law 189 = .ok (.aload_n 2, 1) := by decide +kernel
theorem dL_law_190 : decode cL_law 190 = .ok (.aload_n 0, 1) := by decide +kernel
theorem dL_law_191 : decode cL_law 191 = .ok (.iload_n 3, 1) := by decide +kernel
theorem dL_law_192 : decode cL_law 192 = .ok (.iconst 1, 1) := by decide +kernel
theorem dL_law_193 : decode cL_law 193 = .ok (.iadd, 1) := by decide +kernel
theorem dL_law_194 : decode cL_law 194 = .ok (.iaload, 1) := by decide +kernel
theorem dL_law_195 : decode cL_law 195 = .ok (.aload_n 0, 1) := by decide +kernel
theorem dL_law_196 : decode cL_law 196 = .ok (.iload_n 3, 1) := by decide +kernel
theorem dL_law_197 : decode cL_law 197 = .ok (.iconst 2, 1) := by decide +kernel
theorem dL_law_198 : decode cL_law 198 = .ok (.iadd, 1) := by decide +kernel
theorem dL_law_199 : decode cL_law 199 = .ok (.iaload, 1) := by decide +kernel
theorem dL_law_200 : decode cL_law 200 = .ok (.aload_n 0, 1) := by decide +kernel
theorem dL_law_201 : decode cL_law 201 = .ok (.iload_n 3, 1) := by decide +kernel
theorem dL_law_202 : decode cL_law 202 = .ok (.iconst 3, 1) := by decide +kernel
theorem dL_law_203 : decode cL_law 203 = .ok (.iadd, 1) := by decide +kernel
theorem dL_law_204 : decode cL_law 204 = .ok (.iaload, 1) := by decide +kernel
theorem dL_law_205 : decode cL_law 205 = .ok (.aload_n 0, 1) := by decide +kernel
theorem dL_law_206 : decode cL_law 206 = .ok (.iload_n 3, 1) := by decide +kernel
theorem dL_law_207 : decode cL_law 207 = .ok (.iconst 4, 1) := by decide +kernel
theorem dL_law_208 : decode cL_law 208 = .ok (.iadd, 1) := by decide +kernel
theorem dL_law_209 : decode cL_law 209 = .ok (.iaload, 1) := by decide +kernel
theorem dL_law_210 : decode cL_law 210 = .ok (.aload_n 0, 1) := by decide +kernel
theorem dL_law_211 : decode cL_law 211 = .ok (.iload_n 3, 1) := by decide +kernel
theorem dL_law_212 : decode cL_law 212 = .ok (.iconst 5, 1) := by decide +kernel
theorem dL_law_213 : decode cL_law 213 = .ok (.iadd, 1) := by decide +kernel
theorem dL_law_214 : decode cL_law 214 = .ok (.iaload, 1) := by decide +kernel
theorem dL_law_215 : decode cL_law 215 = .ok (.ifCond .eq 7, 3) := by decide +kernel
theorem dL_law_218 : decode cL_law 218 = .ok (.iconst 1, 1) := by decide +kernel
theorem dL_law_219 : decode cL_law 219 = .ok (.goto 4, 3) := by decide +kernel
theorem dL_law_222 : decode cL_law 222 = .ok (.iconst 0, 1) := by decide +kernel
theorem dL_law_223 : decode cL_law 223 = .ok (.invokevirtual 17, 3) := by decide +kernel
theorem dL_law_226 : decode cL_law 226 = .ok (.if_icmp .eq 668, 3) := by decide +kernel
theorem dL_law_229 : decode cL_law 229 = .ok (.iconst 0, 1) := by decide +kernel
theorem dL_law_230 : decode cL_law 230 = .ok (.ireturn, 1) := by decide +kernel
theorem dL_law_231 : decode cL_law 231 = .ok (.aload_n 1, 1) := by decide +kernel
theorem dL_law_232 : decode cL_law 232 = .ok (.aload_n 0, 1) := by decide +kernel
theorem dL_law_233 : decode cL_law 233 = .ok (.iload_n 3, 1) := by decide +kernel
theorem dL_law_234 : decode cL_law 234 = .ok (.iconst 1, 1) := by decide +kernel
theorem dL_law_235 : decode cL_law 235 = .ok (.iadd, 1) := by decide +kernel
theorem dL_law_236 : decode cL_law 236 = .ok (.iaload, 1) := by decide +kernel
theorem dL_law_237 : decode cL_law 237 = .ok (.invokevirtual 18, 3) := by decide +kernel
theorem dL_law_240 : decode cL_law 240 = .ok (.aload_n 2, 1) := by decide +kernel
theorem dL_law_241 : decode cL_law 241 = .ok (.aload_n 0, 1) := by decide +kernel
theorem dL_law_242 : decode cL_law 242 = .ok (.iload_n 3, 1) := by decide +kernel
theorem dL_law_243 : decode cL_law 243 = .ok (.iconst 1, 1) := by decide +kernel
theorem dL_law_244 : decode cL_law 244 = .ok (.iadd, 1) := by decide +kernel
theorem dL_law_245 : decode cL_law 245 = .ok (.iaload, 1) := by decide +kernel
theorem dL_law_246 : decode cL_law 246 = .ok (.invokevirtual 22, 3) := by decide +kernel
theorem dL_law_249 : decode cL_law 249 = .ok (.if_icmp .eq 645, 3) := by decide +kernel
theorem dL_law_252 : decode cL_law 252 = .ok (.iconst 0, 1) := by decide +kernel
theorem dL_law_253 : decode cL_law 253 = .ok (.ireturn, 1) := by decide +kernel
theorem dL_law_254 : decode cL_law 254 = .ok (.aload_n 1, 1) := by decide +kernel
theorem dL_law_255 : decode cL_law 255 = .ok (.aload_n 0, 1) := by decide +kernel
theorem dL_law_256 : decode cL_law 256 = .ok (.iload_n 3, 1) := by decide +kernel
theorem dL_law_257 : decode cL_law 257 = .ok (.iconst 1, 1) := by decide +kernel
theorem dL_law_258 : decode cL_law 258 = .ok (.iadd, 1) := by decide +kernel
theorem dL_law_259 : decode cL_law 259 = .ok (.iaload, 1) := by decide +kernel
theorem dL_law_260 : decode cL_law 260 = .ok (.aload_n 0, 1) := by decide +kernel
theorem dL_law_261 : decode cL_law 261 = .ok (.iload_n 3, 1) := by decide +kernel
theorem dL_law_262 : decode cL_law 262 = .ok (.iconst 2, 1) := by decide +kernel
theorem dL_law_263 : decode cL_law 263 = .ok (.iadd, 1) := by decide +kernel
theorem dL_law_264 : decode cL_law 264 = .ok (.iaload, 1) := by decide +kernel
theorem dL_law_265 : decode cL_law 265 = .ok (.ifCond .eq 7, 3) := by decide +kernel
theorem dL_law_268 : decode cL_law 268 = .ok (.iconst 1, 1) := by decide +kernel
theorem dL_law_269 : decode cL_law 269 = .ok (.goto 4, 3) := by decide +kernel
theorem dL_law_272 : decode cL_law 272 = .ok (.iconst 0, 1) := by decide +kernel
theorem dL_law_273 : decode cL_law 273 = .ok (.invokevirtual 23, 3) := by decide +kernel
theorem dL_law_276 : decode cL_law 276 = .ok (.aload_n 2, 1) := by decide +kernel
theorem dL_law_277 : decode cL_law 277 = .ok (.aload_n 0, 1) := by decide +kernel
theorem dL_law_278 : decode cL_law 278 = .ok (.iload_n 3, 1) := by decide +kernel
theorem dL_law_279 : decode cL_law 279 = .ok (.iconst 1, 1) := by decide +kernel
theorem dL_law_280 : decode cL_law 280 = .ok (.iadd, 1) := by decide +kernel
theorem dL_law_281 : decode cL_law 281 = .ok (.iaload, 1) := by decide +kernel
theorem dL_law_282 : decode cL_law 282 = .ok (.aload_n 0, 1) := by decide +kernel
theorem dL_law_283 : decode cL_law 283 = .ok (.iload_n 3, 1) := by decide +kernel
theorem dL_law_284 : decode cL_law 284 = .ok (.iconst 2, 1) := by decide +kernel
theorem dL_law_285 : decode cL_law 285 = .ok (.iadd, 1) := by decide +kernel
theorem dL_law_286 : decode cL_law 286 = .ok (.iaload, 1) := by decide +kernel
theorem dL_law_287 : decode cL_law 287 = .ok (.ifCond .eq 7, 3) := by decide +kernel
theorem dL_law_290 : decode cL_law 290 = .ok (.iconst 1, 1) := by decide +kernel
theorem dL_law_291 : decode cL_law 291 = .ok (.goto 4, 3) := by decide +kernel
theorem dL_law_294 : decode cL_law 294 = .ok (.iconst 0, 1) := by decide +kernel
theorem dL_law_295 : decode cL_law 295 = .ok (.invokevirtual 27, 3) := by decide +kernel
theorem dL_law_298 : decode cL_law 298 = .ok (.if_icmp .eq 596, 3) := by decide +kernel
theorem dL_law_301 : decode cL_law 301 = .ok (.iconst 0, 1) := by decide +kernel
theorem dL_law_302 : decode cL_law 302 = .ok (.ireturn, 1) := by decide +kernel
theorem dL_law_303 : decode cL_law 303 = .ok (.aload_n 1, 1) := by decide +kernel
theorem dL_law_304 : decode cL_law 304 = .ok (.aload_n 0, 1) := by decide +kernel
theorem dL_law_305 : decode cL_law 305 = .ok (.iload_n 3, 1) := by decide +kernel
theorem dL_law_306 : decode cL_law 306 = .ok (.iconst 1, 1) := by decide +kernel
theorem dL_law_307 : decode cL_law 307 = .ok (.iadd, 1) := by decide +kernel
theorem dL_law_308 : decode cL_law 308 = .ok (.iaload, 1) := by decide +kernel
theorem dL_law_309 : decode cL_law 309 = .ok (.aload_n 0, 1) := by decide +kernel
theorem dL_law_310 : decode cL_law 310 = .ok (.iload_n 3, 1) := by decide +kernel
theorem dL_law_311 : decode cL_law 311 = .ok (.iconst 2, 1) := by decide +kernel
theorem dL_law_312 : decode cL_law 312 = .ok (.iadd, 1) := by decide +kernel
theorem dL_law_313 : decode cL_law 313 = .ok (.iaload, 1) := by decide +kernel
theorem dL_law_314 : decode cL_law 314 = .ok (.invokevirtual 28, 3) := by decide +kernel
theorem dL_law_317 : decode cL_law 317 = .ok (.aload_n 2, 1) := by decide +kernel
theorem dL_law_318 : decode cL_law 318 = .ok (.aload_n 0, 1) := by decide +kernel
theorem dL_law_319 : decode cL_law 319 = .ok (.iload_n 3, 1) := by decide +kernel
theorem dL_law_320 : decode cL_law 320 = .ok (.iconst 1, 1) := by decide +kernel
theorem dL_law_321 : decode cL_law 321 = .ok (.iadd, 1) := by decide +kernel
theorem dL_law_322 : decode cL_law 322 = .ok (.iaload, 1) := by decide +kernel
theorem dL_law_323 : decode cL_law 323 = .ok (.aload_n 0, 1) := by decide +kernel
theorem dL_law_324 : decode cL_law 324 = .ok (.iload_n 3, 1) := by decide +kernel
theorem dL_law_325 : decode cL_law 325 = .ok (.iconst 2, 1) := by decide +kernel
theorem dL_law_326 : decode cL_law 326 = .ok (.iadd, 1) := by decide +kernel
theorem dL_law_327 : decode cL_law 327 = .ok (.iaload, 1) := by decide +kernel
theorem dL_law_328 : decode cL_law 328 = .ok (.invokevirtual 32, 3) := by decide +kernel
theorem dL_law_331 : decode cL_law 331 = .ok (.if_icmp .eq 563, 3) := by decide +kernel
theorem dL_law_334 : decode cL_law 334 = .ok (.iconst 0, 1) := by decide +kernel
theorem dL_law_335 : decode cL_law 335 = .ok (.ireturn, 1) := by decide +kernel
theorem dL_law_336 : decode cL_law 336 = .ok (.aload_n 1, 1) := by decide +kernel
theorem dL_law_337 : decode cL_law 337 = .ok (.aload_n 0, 1) := by decide +kernel
theorem dL_law_338 : decode cL_law 338 = .ok (.iload_n 3, 1) := by decide +kernel
theorem dL_law_339 : decode cL_law 339 = .ok (.iconst 1, 1) := by decide +kernel
theorem dL_law_340 : decode cL_law 340 = .ok (.iadd, 1) := by decide +kernel
theorem dL_law_341 : decode cL_law 341 = .ok (.iaload, 1) := by decide +kernel
theorem dL_law_342 : decode cL_law 342 = .ok (.invokevirtual 33, 3) := by decide +kernel
theorem dL_law_345 : decode cL_law 345 = .ok (.aload_n 2, 1) := by decide +kernel
theorem dL_law_346 : decode cL_law 346 = .ok (.aload_n 0, 1) := by decide +kernel
theorem dL_law_347 : decode cL_law 347 = .ok (.iload_n 3, 1) := by decide +kernel
theorem dL_law_348 : decode cL_law 348 = .ok (.iconst 1, 1) := by decide +kernel
theorem dL_law_349 : decode cL_law 349 = .ok (.iadd, 1) := by decide +kernel
theorem dL_law_350 : decode cL_law 350 = .ok (.iaload, 1) := by decide +kernel
theorem dL_law_351 : decode cL_law 351 = .ok (.invokevirtual 36, 3) := by decide +kernel
theorem dL_law_354 : decode cL_law 354 = .ok (.if_icmp .eq 540, 3) := by decide +kernel
theorem dL_law_357 : decode cL_law 357 = .ok (.iconst 0, 1) := by decide +kernel
theorem dL_law_358 : decode cL_law 358 = .ok (.ireturn, 1) := by decide +kernel
theorem dL_law_359 : decode cL_law 359 = .ok (.aload_n 1, 1) := by decide +kernel
theorem dL_law_360 : decode cL_law 360 = .ok (.invokevirtual 37, 3) := by decide +kernel
theorem dL_law_363 : decode cL_law 363 = .ok (.aload_n 2, 1) := by decide +kernel
theorem dL_law_364 : decode cL_law 364 = .ok (.invokevirtual 41, 3) := by decide +kernel
theorem dL_law_367 : decode cL_law 367 = .ok (.if_icmp .eq 527, 3) := by decide +kernel
theorem dL_law_370 : decode cL_law 370 = .ok (.iconst 0, 1) := by decide +kernel
theorem dL_law_371 : decode cL_law 371 = .ok (.ireturn, 1) := by decide +kernel
theorem dL_law_372 : decode cL_law 372 = .ok (.aload_n 1, 1) := by decide +kernel
theorem dL_law_373 : decode cL_law 373 = .ok (.invokevirtual 42, 3) := by decide +kernel
theorem dL_law_376 : decode cL_law 376 = .ok (.aload_n 2, 1) := by decide +kernel
theorem dL_law_377 : decode cL_law 377 = .ok (.invokevirtual 45, 3) := by decide +kernel
theorem dL_law_380 : decode cL_law 380 = .ok (.if_icmp .eq 514, 3) := by decide +kernel
theorem dL_law_383 : decode cL_law 383 = .ok (.iconst 0, 1) := by decide +kernel
theorem dL_law_384 : decode cL_law 384 = .ok (.ireturn, 1) := by decide +kernel
theorem dL_law_385 : decode cL_law 385 = .ok (.aload_n 1, 1) := by decide +kernel
theorem dL_law_386 : decode cL_law 386 = .ok (.aload_n 0, 1) := by decide +kernel
theorem dL_law_387 : decode cL_law 387 = .ok (.iload_n 3, 1) := by decide +kernel
theorem dL_law_388 : decode cL_law 388 = .ok (.iconst 1, 1) := by decide +kernel
theorem dL_law_389 : decode cL_law 389 = .ok (.iadd, 1) := by decide +kernel
theorem dL_law_390 : decode cL_law 390 = .ok (.iaload, 1) := by decide +kernel
theorem dL_law_391 : decode cL_law 391 = .ok (.aload_n 0, 1) := by decide +kernel
theorem dL_law_392 : decode cL_law 392 = .ok (.iload_n 3, 1) := by decide +kernel
theorem dL_law_393 : decode cL_law 393 = .ok (.iconst 2, 1) := by decide +kernel
theorem dL_law_394 : decode cL_law 394 = .ok (.iadd, 1) := by decide +kernel
theorem dL_law_395 : decode cL_law 395 = .ok (.iaload, 1) := by decide +kernel
theorem dL_law_396 : decode cL_law 396 = .ok (.invokevirtual 46, 3) := by decide +kernel
theorem dL_law_399 : decode cL_law 399 = .ok (.aload_n 2, 1) := by decide +kernel
theorem dL_law_400 : decode cL_law 400 = .ok (.aload_n 0, 1) := by decide +kernel
theorem dL_law_401 : decode cL_law 401 = .ok (.iload_n 3, 1) := by decide +kernel
theorem dL_law_402 : decode cL_law 402 = .ok (.iconst 1, 1) := by decide +kernel
theorem dL_law_403 : decode cL_law 403 = .ok (.iadd, 1) := by decide +kernel
theorem dL_law_404 : decode cL_law 404 = .ok (.iaload, 1) := by decide +kernel
theorem dL_law_405 : decode cL_law 405 = .ok (.aload_n 0, 1) := by decide +kernel
theorem dL_law_406 : decode cL_law 406 = .ok (.iload_n 3, 1) := by decide +kernel
theorem dL_law_407 : decode cL_law 407 = .ok (.iconst 2, 1) := by decide +kernel
theorem dL_law_408 : decode cL_law 408 = .ok (.iadd, 1) := by decide +kernel
theorem dL_law_409 : decode cL_law 409 = .ok (.iaload, 1) := by decide +kernel
theorem dL_law_410 : decode cL_law 410 = .ok (.invokevirtual 49, 3) := by decide +kernel
theorem dL_law_413 : decode cL_law 413 = .ok (.if_icmp .eq 481, 3) := by decide +kernel
theorem dL_law_416 : decode cL_law 416 = .ok (.iconst 0, 1) := by decide +kernel
theorem dL_law_417 : decode cL_law 417 = .ok (.ireturn, 1) := by decide +kernel
theorem dL_law_418 : decode cL_law 418 = .ok (.aload_n 1, 1) := by decide +kernel
theorem dL_law_419 : decode cL_law 419 = .ok (.aload_n 0, 1) := by decide +kernel
theorem dL_law_420 : decode cL_law 420 = .ok (.iload_n 3, 1) := by decide +kernel
theorem dL_law_421 : decode cL_law 421 = .ok (.iconst 1, 1) := by decide +kernel
theorem dL_law_422 : decode cL_law 422 = .ok (.iadd, 1) := by decide +kernel
theorem dL_law_423 : decode cL_law 423 = .ok (.iaload, 1) := by decide +kernel
theorem dL_law_424 : decode cL_law 424 = .ok (.aload_n 0, 1) := by decide +kernel
theorem dL_law_425 : decode cL_law 425 = .ok (.iload_n 3, 1) := by decide +kernel
theorem dL_law_426 : decode cL_law 426 = .ok (.iconst 2, 1) := by decide +kernel
theorem dL_law_427 : decode cL_law 427 = .ok (.iadd, 1) := by decide +kernel
theorem dL_law_428 : decode cL_law 428 = .ok (.iaload, 1) := by decide +kernel
theorem dL_law_429 : decode cL_law 429 = .ok (.invokevirtual 50, 3) := by decide +kernel
theorem dL_law_432 : decode cL_law 432 = .ok (.aload_n 2, 1) := by decide +kernel
theorem dL_law_433 : decode cL_law 433 = .ok (.aload_n 0, 1) := by decide +kernel
theorem dL_law_434 : decode cL_law 434 = .ok (.iload_n 3, 1) := by decide +kernel
theorem dL_law_435 : decode cL_law 435 = .ok (.iconst 1, 1) := by decide +kernel
theorem dL_law_436 : decode cL_law 436 = .ok (.iadd, 1) := by decide +kernel
theorem dL_law_437 : decode cL_law 437 = .ok (.iaload, 1) := by decide +kernel
theorem dL_law_438 : decode cL_law 438 = .ok (.aload_n 0, 1) := by decide +kernel
theorem dL_law_439 : decode cL_law 439 = .ok (.iload_n 3, 1) := by decide +kernel
theorem dL_law_440 : decode cL_law 440 = .ok (.iconst 2, 1) := by decide +kernel
theorem dL_law_441 : decode cL_law 441 = .ok (.iadd, 1) := by decide +kernel
theorem dL_law_442 : decode cL_law 442 = .ok (.iaload, 1) := by decide +kernel
theorem dL_law_443 : decode cL_law 443 = .ok (.invokevirtual 53, 3) := by decide +kernel
theorem dL_law_446 : decode cL_law 446 = .ok (.if_icmp .eq 448, 3) := by decide +kernel
theorem dL_law_449 : decode cL_law 449 = .ok (.iconst 0, 1) := by decide +kernel
theorem dL_law_450 : decode cL_law 450 = .ok (.ireturn, 1) := by decide +kernel
theorem dL_law_451 : decode cL_law 451 = .ok (.aload_n 1, 1) := by decide +kernel
theorem dL_law_452 : decode cL_law 452 = .ok (.invokevirtual 54, 3) := by decide +kernel
theorem dL_law_455 : decode cL_law 455 = .ok (.aload_n 2, 1) := by decide +kernel
theorem dL_law_456 : decode cL_law 456 = .ok (.invokevirtual 57, 3) := by decide +kernel
theorem dL_law_459 : decode cL_law 459 = .ok (.if_icmp .eq 435, 3) := by decide +kernel
theorem dL_law_462 : decode cL_law 462 = .ok (.iconst 0, 1) := by decide +kernel
theorem dL_law_463 : decode cL_law 463 = .ok (.ireturn, 1) := by decide +kernel
theorem dL_law_464 : decode cL_law 464 = .ok (.aload_n 1, 1) := by decide +kernel
theorem dL_law_465 : decode cL_law 465 = .ok (.aload_n 0, 1) := by decide +kernel
theorem dL_law_466 : decode cL_law 466 = .ok (.iload_n 3, 1) := by decide +kernel
theorem dL_law_467 : decode cL_law 467 = .ok (.iconst 1, 1) := by decide +kernel
theorem dL_law_468 : decode cL_law 468 = .ok (.iadd, 1) := by decide +kernel
theorem dL_law_469 : decode cL_law 469 = .ok (.iaload, 1) := by decide +kernel
theorem dL_law_470 : decode cL_law 470 = .ok (.invokevirtual 58, 3) := by decide +kernel
theorem dL_law_473 : decode cL_law 473 = .ok (.aload_n 2, 1) := by decide +kernel
theorem dL_law_474 : decode cL_law 474 = .ok (.aload_n 0, 1) := by decide +kernel
theorem dL_law_475 : decode cL_law 475 = .ok (.iload_n 3, 1) := by decide +kernel
theorem dL_law_476 : decode cL_law 476 = .ok (.iconst 1, 1) := by decide +kernel
theorem dL_law_477 : decode cL_law 477 = .ok (.iadd, 1) := by decide +kernel
theorem dL_law_478 : decode cL_law 478 = .ok (.iaload, 1) := by decide +kernel
theorem dL_law_479 : decode cL_law 479 = .ok (.invokevirtual 61, 3) := by decide +kernel
theorem dL_law_482 : decode cL_law 482 = .ok (.if_icmp .eq 412, 3) := by decide +kernel
theorem dL_law_485 : decode cL_law 485 = .ok (.iconst 0, 1) := by decide +kernel
theorem dL_law_486 : decode cL_law 486 = .ok (.ireturn, 1) := by decide +kernel
theorem dL_law_487 : decode cL_law 487 = .ok (.aload_n 1, 1) := by decide +kernel
theorem dL_law_488 : decode cL_law 488 = .ok (.aload_n 0, 1) := by decide +kernel
theorem dL_law_489 : decode cL_law 489 = .ok (.iload_n 3, 1) := by decide +kernel
theorem dL_law_490 : decode cL_law 490 = .ok (.iconst 1, 1) := by decide +kernel
theorem dL_law_491 : decode cL_law 491 = .ok (.iadd, 1) := by decide +kernel
theorem dL_law_492 : decode cL_law 492 = .ok (.iaload, 1) := by decide +kernel
theorem dL_law_493 : decode cL_law 493 = .ok (.invokevirtual 62, 3) := by decide +kernel
theorem dL_law_496 : decode cL_law 496 = .ok (.aload_n 2, 1) := by decide +kernel
theorem dL_law_497 : decode cL_law 497 = .ok (.aload_n 0, 1) := by decide +kernel
theorem dL_law_498 : decode cL_law 498 = .ok (.iload_n 3, 1) := by decide +kernel
theorem dL_law_499 : decode cL_law 499 = .ok (.iconst 1, 1) := by decide +kernel
theorem dL_law_500 : decode cL_law 500 = .ok (.iadd, 1) := by decide +kernel
theorem dL_law_501 : decode cL_law 501 = .ok (.iaload, 1) := by decide +kernel
theorem dL_law_502 : decode cL_law 502 = .ok (.invokevirtual 65, 3) := by decide +kernel
theorem dL_law_505 : decode cL_law 505 = .ok (.if_icmp .eq 389, 3) := by decide +kernel
theorem dL_law_508 : decode cL_law 508 = .ok (.iconst 0, 1) := by decide +kernel
theorem dL_law_509 : decode cL_law 509 = .ok (.ireturn, 1) := by decide +kernel
theorem dL_law_510 : decode cL_law 510 = .ok (.aload_n 1, 1) := by decide +kernel
theorem dL_law_511 : decode cL_law 511 = .ok (.aload_n 0, 1) := by decide +kernel
theorem dL_law_512 : decode cL_law 512 = .ok (.iload_n 3, 1) := by decide +kernel
theorem dL_law_513 : decode cL_law 513 = .ok (.iconst 1, 1) := by decide +kernel
theorem dL_law_514 : decode cL_law 514 = .ok (.iadd, 1) := by decide +kernel
theorem dL_law_515 : decode cL_law 515 = .ok (.iaload, 1) := by decide +kernel
theorem dL_law_516 : decode cL_law 516 = .ok (.aload_n 0, 1) := by decide +kernel
theorem dL_law_517 : decode cL_law 517 = .ok (.iload_n 3, 1) := by decide +kernel
theorem dL_law_518 : decode cL_law 518 = .ok (.iconst 2, 1) := by decide +kernel
theorem dL_law_519 : decode cL_law 519 = .ok (.iadd, 1) := by decide +kernel
theorem dL_law_520 : decode cL_law 520 = .ok (.iaload, 1) := by decide +kernel
theorem dL_law_521 : decode cL_law 521 = .ok (.invokevirtual 66, 3) := by decide +kernel
theorem dL_law_524 : decode cL_law 524 = .ok (.aload_n 2, 1) := by decide +kernel
theorem dL_law_525 : decode cL_law 525 = .ok (.aload_n 0, 1) := by decide +kernel
theorem dL_law_526 : decode cL_law 526 = .ok (.iload_n 3, 1) := by decide +kernel
theorem dL_law_527 : decode cL_law 527 = .ok (.iconst 1, 1) := by decide +kernel
theorem dL_law_528 : decode cL_law 528 = .ok (.iadd, 1) := by decide +kernel
theorem dL_law_529 : decode cL_law 529 = .ok (.iaload, 1) := by decide +kernel
theorem dL_law_530 : decode cL_law 530 = .ok (.aload_n 0, 1) := by decide +kernel
theorem dL_law_531 : decode cL_law 531 = .ok (.iload_n 3, 1) := by decide +kernel
theorem dL_law_532 : decode cL_law 532 = .ok (.iconst 2, 1) := by decide +kernel
theorem dL_law_533 : decode cL_law 533 = .ok (.iadd, 1) := by decide +kernel
theorem dL_law_534 : decode cL_law 534 = .ok (.iaload, 1) := by decide +kernel
theorem dL_law_535 : decode cL_law 535 = .ok (.invokevirtual 69, 3) := by decide +kernel
theorem dL_law_538 : decode cL_law 538 = .ok (.if_icmp .eq 356, 3) := by decide +kernel
theorem dL_law_541 : decode cL_law 541 = .ok (.iconst 0, 1) := by decide +kernel
theorem dL_law_542 : decode cL_law 542 = .ok (.ireturn, 1) := by decide +kernel
theorem dL_law_543 : decode cL_law 543 = .ok (.aload_n 1, 1) := by decide +kernel
theorem dL_law_544 : decode cL_law 544 = .ok (.aload_n 0, 1) := by decide +kernel
theorem dL_law_545 : decode cL_law 545 = .ok (.iload_n 3, 1) := by decide +kernel
theorem dL_law_546 : decode cL_law 546 = .ok (.iconst 1, 1) := by decide +kernel
theorem dL_law_547 : decode cL_law 547 = .ok (.iadd, 1) := by decide +kernel
theorem dL_law_548 : decode cL_law 548 = .ok (.iaload, 1) := by decide +kernel
theorem dL_law_549 : decode cL_law 549 = .ok (.aload_n 0, 1) := by decide +kernel
theorem dL_law_550 : decode cL_law 550 = .ok (.iload_n 3, 1) := by decide +kernel
theorem dL_law_551 : decode cL_law 551 = .ok (.iconst 2, 1) := by decide +kernel
theorem dL_law_552 : decode cL_law 552 = .ok (.iadd, 1) := by decide +kernel
theorem dL_law_553 : decode cL_law 553 = .ok (.iaload, 1) := by decide +kernel
theorem dL_law_554 : decode cL_law 554 = .ok (.invokevirtual 70, 3) := by decide +kernel
theorem dL_law_557 : decode cL_law 557 = .ok (.aload_n 2, 1) := by decide +kernel
theorem dL_law_558 : decode cL_law 558 = .ok (.aload_n 0, 1) := by decide +kernel
theorem dL_law_559 : decode cL_law 559 = .ok (.iload_n 3, 1) := by decide +kernel
theorem dL_law_560 : decode cL_law 560 = .ok (.iconst 1, 1) := by decide +kernel
theorem dL_law_561 : decode cL_law 561 = .ok (.iadd, 1) := by decide +kernel
theorem dL_law_562 : decode cL_law 562 = .ok (.iaload, 1) := by decide +kernel
theorem dL_law_563 : decode cL_law 563 = .ok (.aload_n 0, 1) := by decide +kernel
theorem dL_law_564 : decode cL_law 564 = .ok (.iload_n 3, 1) := by decide +kernel
theorem dL_law_565 : decode cL_law 565 = .ok (.iconst 2, 1) := by decide +kernel
theorem dL_law_566 : decode cL_law 566 = .ok (.iadd, 1) := by decide +kernel
theorem dL_law_567 : decode cL_law 567 = .ok (.iaload, 1) := by decide +kernel
theorem dL_law_568 : decode cL_law 568 = .ok (.invokevirtual 74, 3) := by decide +kernel
theorem dL_law_571 : decode cL_law 571 = .ok (.lcmp, 1) := by decide +kernel
theorem dL_law_572 : decode cL_law 572 = .ok (.ifCond .eq 322, 3) := by decide +kernel
theorem dL_law_575 : decode cL_law 575 = .ok (.iconst 0, 1) := by decide +kernel
theorem dL_law_576 : decode cL_law 576 = .ok (.ireturn, 1) := by decide +kernel
theorem dL_law_577 : decode cL_law 577 = .ok (.aload_n 1, 1) := by decide +kernel
theorem dL_law_578 : decode cL_law 578 = .ok (.aload_n 0, 1) := by decide +kernel
theorem dL_law_579 : decode cL_law 579 = .ok (.iload_n 3, 1) := by decide +kernel
theorem dL_law_580 : decode cL_law 580 = .ok (.iconst 1, 1) := by decide +kernel
theorem dL_law_581 : decode cL_law 581 = .ok (.iadd, 1) := by decide +kernel
theorem dL_law_582 : decode cL_law 582 = .ok (.iaload, 1) := by decide +kernel
theorem dL_law_583 : decode cL_law 583 = .ok (.invokevirtual 75, 3) := by decide +kernel
theorem dL_law_586 : decode cL_law 586 = .ok (.aload_n 2, 1) := by decide +kernel
theorem dL_law_587 : decode cL_law 587 = .ok (.aload_n 0, 1) := by decide +kernel
theorem dL_law_588 : decode cL_law 588 = .ok (.iload_n 3, 1) := by decide +kernel
theorem dL_law_589 : decode cL_law 589 = .ok (.iconst 1, 1) := by decide +kernel
theorem dL_law_590 : decode cL_law 590 = .ok (.iadd, 1) := by decide +kernel
theorem dL_law_591 : decode cL_law 591 = .ok (.iaload, 1) := by decide +kernel
theorem dL_law_592 : decode cL_law 592 = .ok (.invokevirtual 78, 3) := by decide +kernel
theorem dL_law_595 : decode cL_law 595 = .ok (.if_icmp .eq 299, 3) := by decide +kernel
theorem dL_law_598 : decode cL_law 598 = .ok (.iconst 0, 1) := by decide +kernel
theorem dL_law_599 : decode cL_law 599 = .ok (.ireturn, 1) := by decide +kernel
theorem dL_law_600 : decode cL_law 600 = .ok (.aload_n 1, 1) := by decide +kernel
theorem dL_law_601 : decode cL_law 601 = .ok (.aload_n 0, 1) := by decide +kernel
theorem dL_law_602 : decode cL_law 602 = .ok (.iload_n 3, 1) := by decide +kernel
theorem dL_law_603 : decode cL_law 603 = .ok (.iconst 1, 1) := by decide +kernel
theorem dL_law_604 : decode cL_law 604 = .ok (.iadd, 1) := by decide +kernel
theorem dL_law_605 : decode cL_law 605 = .ok (.iaload, 1) := by decide +kernel
theorem dL_law_606 : decode cL_law 606 = .ok (.aload_n 0, 1) := by decide +kernel
theorem dL_law_607 : decode cL_law 607 = .ok (.iload_n 3, 1) := by decide +kernel
theorem dL_law_608 : decode cL_law 608 = .ok (.iconst 2, 1) := by decide +kernel
theorem dL_law_609 : decode cL_law 609 = .ok (.iadd, 1) := by decide +kernel
theorem dL_law_610 : decode cL_law 610 = .ok (.iaload, 1) := by decide +kernel
theorem dL_law_611 : decode cL_law 611 = .ok (.invokevirtual 79, 3) := by decide +kernel
theorem dL_law_614 : decode cL_law 614 = .ok (.aload_n 2, 1) := by decide +kernel
theorem dL_law_615 : decode cL_law 615 = .ok (.aload_n 0, 1) := by decide +kernel
theorem dL_law_616 : decode cL_law 616 = .ok (.iload_n 3, 1) := by decide +kernel
theorem dL_law_617 : decode cL_law 617 = .ok (.iconst 1, 1) := by decide +kernel
theorem dL_law_618 : decode cL_law 618 = .ok (.iadd, 1) := by decide +kernel
theorem dL_law_619 : decode cL_law 619 = .ok (.iaload, 1) := by decide +kernel
theorem dL_law_620 : decode cL_law 620 = .ok (.aload_n 0, 1) := by decide +kernel
theorem dL_law_621 : decode cL_law 621 = .ok (.iload_n 3, 1) := by decide +kernel
theorem dL_law_622 : decode cL_law 622 = .ok (.iconst 2, 1) := by decide +kernel
theorem dL_law_623 : decode cL_law 623 = .ok (.iadd, 1) := by decide +kernel
theorem dL_law_624 : decode cL_law 624 = .ok (.iaload, 1) := by decide +kernel
theorem dL_law_625 : decode cL_law 625 = .ok (.invokevirtual 82, 3) := by decide +kernel
theorem dL_law_628 : decode cL_law 628 = .ok (.lcmp, 1) := by decide +kernel
theorem dL_law_629 : decode cL_law 629 = .ok (.ifCond .eq 265, 3) := by decide +kernel
theorem dL_law_632 : decode cL_law 632 = .ok (.iconst 0, 1) := by decide +kernel
theorem dL_law_633 : decode cL_law 633 = .ok (.ireturn, 1) := by decide +kernel
theorem dL_law_634 : decode cL_law 634 = .ok (.aload_n 1, 1) := by decide +kernel
theorem dL_law_635 : decode cL_law 635 = .ok (.aload_n 0, 1) := by decide +kernel
theorem dL_law_636 : decode cL_law 636 = .ok (.iload_n 3, 1) := by decide +kernel
theorem dL_law_637 : decode cL_law 637 = .ok (.iconst 1, 1) := by decide +kernel
theorem dL_law_638 : decode cL_law 638 = .ok (.iadd, 1) := by decide +kernel
theorem dL_law_639 : decode cL_law 639 = .ok (.iaload, 1) := by decide +kernel
theorem dL_law_640 : decode cL_law 640 = .ok (.invokevirtual 83, 3) := by decide +kernel
theorem dL_law_643 : decode cL_law 643 = .ok (.aload_n 2, 1) := by decide +kernel
theorem dL_law_644 : decode cL_law 644 = .ok (.aload_n 0, 1) := by decide +kernel
theorem dL_law_645 : decode cL_law 645 = .ok (.iload_n 3, 1) := by decide +kernel
theorem dL_law_646 : decode cL_law 646 = .ok (.iconst 1, 1) := by decide +kernel
theorem dL_law_647 : decode cL_law 647 = .ok (.iadd, 1) := by decide +kernel
theorem dL_law_648 : decode cL_law 648 = .ok (.iaload, 1) := by decide +kernel
theorem dL_law_649 : decode cL_law 649 = .ok (.invokevirtual 86, 3) := by decide +kernel
theorem dL_law_652 : decode cL_law 652 = .ok (.if_icmp .eq 242, 3) := by decide +kernel
theorem dL_law_655 : decode cL_law 655 = .ok (.iconst 0, 1) := by decide +kernel
theorem dL_law_656 : decode cL_law 656 = .ok (.ireturn, 1) := by decide +kernel
theorem dL_law_657 : decode cL_law 657 = .ok (.aload_n 1, 1) := by decide +kernel
theorem dL_law_658 : decode cL_law 658 = .ok (.aload_n 0, 1) := by decide +kernel
theorem dL_law_659 : decode cL_law 659 = .ok (.iload_n 3, 1) := by decide +kernel
theorem dL_law_660 : decode cL_law 660 = .ok (.iconst 1, 1) := by decide +kernel
theorem dL_law_661 : decode cL_law 661 = .ok (.iadd, 1) := by decide +kernel
theorem dL_law_662 : decode cL_law 662 = .ok (.iaload, 1) := by decide +kernel
theorem dL_law_663 : decode cL_law 663 = .ok (.invokevirtual 87, 3) := by decide +kernel
theorem dL_law_666 : decode cL_law 666 = .ok (.aload_n 2, 1) := by decide +kernel
theorem dL_law_667 : decode cL_law 667 = .ok (.aload_n 0, 1) := by decide +kernel
theorem dL_law_668 : decode cL_law 668 = .ok (.iload_n 3, 1) := by decide +kernel
theorem dL_law_669 : decode cL_law 669 = .ok (.iconst 1, 1) := by decide +kernel
theorem dL_law_670 : decode cL_law 670 = .ok (.iadd, 1) := by decide +kernel
theorem dL_law_671 : decode cL_law 671 = .ok (.iaload, 1) := by decide +kernel
theorem dL_law_672 : decode cL_law 672 = .ok (.invokevirtual 90, 3) := by decide +kernel
theorem dL_law_675 : decode cL_law 675 = .ok (.if_icmp .eq 219, 3) := by decide +kernel
theorem dL_law_678 : decode cL_law 678 = .ok (.iconst 0, 1) := by decide +kernel
theorem dL_law_679 : decode cL_law 679 = .ok (.ireturn, 1) := by decide +kernel
theorem dL_law_680 : decode cL_law 680 = .ok (.aload_n 1, 1) := by decide +kernel
theorem dL_law_681 : decode cL_law 681 = .ok (.aload_n 0, 1) := by decide +kernel
theorem dL_law_682 : decode cL_law 682 = .ok (.iload_n 3, 1) := by decide +kernel
theorem dL_law_683 : decode cL_law 683 = .ok (.iconst 1, 1) := by decide +kernel
theorem dL_law_684 : decode cL_law 684 = .ok (.iadd, 1) := by decide +kernel
theorem dL_law_685 : decode cL_law 685 = .ok (.iaload, 1) := by decide +kernel
theorem dL_law_686 : decode cL_law 686 = .ok (.aload_n 0, 1) := by decide +kernel
theorem dL_law_687 : decode cL_law 687 = .ok (.iload_n 3, 1) := by decide +kernel
theorem dL_law_688 : decode cL_law 688 = .ok (.iconst 2, 1) := by decide +kernel
theorem dL_law_689 : decode cL_law 689 = .ok (.iadd, 1) := by decide +kernel
theorem dL_law_690 : decode cL_law 690 = .ok (.iaload, 1) := by decide +kernel
theorem dL_law_691 : decode cL_law 691 = .ok (.aload_n 0, 1) := by decide +kernel
theorem dL_law_692 : decode cL_law 692 = .ok (.iload_n 3, 1) := by decide +kernel
theorem dL_law_693 : decode cL_law 693 = .ok (.iconst 3, 1) := by decide +kernel
theorem dL_law_694 : decode cL_law 694 = .ok (.iadd, 1) := by decide +kernel
theorem dL_law_695 : decode cL_law 695 = .ok (.iaload, 1) := by decide +kernel
theorem dL_law_696 : decode cL_law 696 = .ok (.invokevirtual 91, 3) := by decide +kernel
theorem dL_law_699 : decode cL_law 699 = .ok (.aload_n 2, 1) := by decide +kernel
theorem dL_law_700 : decode cL_law 700 = .ok (.aload_n 0, 1) := by decide +kernel
theorem dL_law_701 : decode cL_law 701 = .ok (.iload_n 3, 1) := by decide +kernel
theorem dL_law_702 : decode cL_law 702 = .ok (.iconst 1, 1) := by decide +kernel
theorem dL_law_703 : decode cL_law 703 = .ok (.iadd, 1) := by decide +kernel
theorem dL_law_704 : decode cL_law 704 = .ok (.iaload, 1) := by decide +kernel
theorem dL_law_705 : decode cL_law 705 = .ok (.aload_n 0, 1) := by decide +kernel
theorem dL_law_706 : decode cL_law 706 = .ok (.iload_n 3, 1) := by decide +kernel
theorem dL_law_707 : decode cL_law 707 = .ok (.iconst 2, 1) := by decide +kernel
theorem dL_law_708 : decode cL_law 708 = .ok (.iadd, 1) := by decide +kernel
theorem dL_law_709 : decode cL_law 709 = .ok (.iaload, 1) := by decide +kernel
theorem dL_law_710 : decode cL_law 710 = .ok (.aload_n 0, 1) := by decide +kernel
theorem dL_law_711 : decode cL_law 711 = .ok (.iload_n 3, 1) := by decide +kernel
theorem dL_law_712 : decode cL_law 712 = .ok (.iconst 3, 1) := by decide +kernel
theorem dL_law_713 : decode cL_law 713 = .ok (.iadd, 1) := by decide +kernel
theorem dL_law_714 : decode cL_law 714 = .ok (.iaload, 1) := by decide +kernel
theorem dL_law_715 : decode cL_law 715 = .ok (.invokevirtual 95, 3) := by decide +kernel
theorem dL_law_718 : decode cL_law 718 = .ok (.if_icmp .eq 176, 3) := by decide +kernel
theorem dL_law_721 : decode cL_law 721 = .ok (.iconst 0, 1) := by decide +kernel
theorem dL_law_722 : decode cL_law 722 = .ok (.ireturn, 1) := by decide +kernel
theorem dL_law_723 : decode cL_law 723 = .ok (.aload_n 1, 1) := by decide +kernel
theorem dL_law_724 : decode cL_law 724 = .ok (.aload_n 0, 1) := by decide +kernel
theorem dL_law_725 : decode cL_law 725 = .ok (.iload_n 3, 1) := by decide +kernel
theorem dL_law_726 : decode cL_law 726 = .ok (.iconst 1, 1) := by decide +kernel
theorem dL_law_727 : decode cL_law 727 = .ok (.iadd, 1) := by decide +kernel
theorem dL_law_728 : decode cL_law 728 = .ok (.iaload, 1) := by decide +kernel
theorem dL_law_729 : decode cL_law 729 = .ok (.aload_n 0, 1) := by decide +kernel
theorem dL_law_730 : decode cL_law 730 = .ok (.iload_n 3, 1) := by decide +kernel
theorem dL_law_731 : decode cL_law 731 = .ok (.iconst 2, 1) := by decide +kernel
theorem dL_law_732 : decode cL_law 732 = .ok (.iadd, 1) := by decide +kernel
theorem dL_law_733 : decode cL_law 733 = .ok (.iaload, 1) := by decide +kernel
theorem dL_law_734 : decode cL_law 734 = .ok (.invokevirtual 96, 3) := by decide +kernel
theorem dL_law_737 : decode cL_law 737 = .ok (.aload_n 2, 1) := by decide +kernel
theorem dL_law_738 : decode cL_law 738 = .ok (.aload_n 0, 1) := by decide +kernel
theorem dL_law_739 : decode cL_law 739 = .ok (.iload_n 3, 1) := by decide +kernel
theorem dL_law_740 : decode cL_law 740 = .ok (.iconst 1, 1) := by decide +kernel
theorem dL_law_741 : decode cL_law 741 = .ok (.iadd, 1) := by decide +kernel
theorem dL_law_742 : decode cL_law 742 = .ok (.iaload, 1) := by decide +kernel
theorem dL_law_743 : decode cL_law 743 = .ok (.aload_n 0, 1) := by decide +kernel
theorem dL_law_744 : decode cL_law 744 = .ok (.iload_n 3, 1) := by decide +kernel
theorem dL_law_745 : decode cL_law 745 = .ok (.iconst 2, 1) := by decide +kernel
theorem dL_law_746 : decode cL_law 746 = .ok (.iadd, 1) := by decide +kernel
theorem dL_law_747 : decode cL_law 747 = .ok (.iaload, 1) := by decide +kernel
theorem dL_law_748 : decode cL_law 748 = .ok (.invokevirtual 99, 3) := by decide +kernel
theorem dL_law_751 : decode cL_law 751 = .ok (.if_icmp .eq 143, 3) := by decide +kernel
theorem dL_law_754 : decode cL_law 754 = .ok (.iconst 0, 1) := by decide +kernel
theorem dL_law_755 : decode cL_law 755 = .ok (.ireturn, 1) := by decide +kernel
theorem dL_law_756 : decode cL_law 756 = .ok (.aload_n 1, 1) := by decide +kernel
theorem dL_law_757 : decode cL_law 757 = .ok (.invokevirtual 100, 3) := by decide +kernel
theorem dL_law_760 : decode cL_law 760 = .ok (.aload_n 2, 1) := by decide +kernel
theorem dL_law_761 : decode cL_law 761 = .ok (.invokevirtual 103, 3) := by decide +kernel
theorem dL_law_764 : decode cL_law 764 = .ok (.if_icmp .eq 130, 3) := by decide +kernel
theorem dL_law_767 : decode cL_law 767 = .ok (.iconst 0, 1) := by decide +kernel
theorem dL_law_768 : decode cL_law 768 = .ok (.ireturn, 1) := by decide +kernel
theorem dL_law_769 : decode cL_law 769 = .ok (.aload_n 1, 1) := by decide +kernel
theorem dL_law_770 : decode cL_law 770 = .ok (.invokevirtual 104, 3) := by decide +kernel
theorem dL_law_773 : decode cL_law 773 = .ok (.aload_n 2, 1) := by decide +kernel
theorem dL_law_774 : decode cL_law 774 = .ok (.invokevirtual 107, 3) := by decide +kernel
theorem dL_law_777 : decode cL_law 777 = .ok (.if_icmp .eq 117, 3) := by decide +kernel
theorem dL_law_780 : decode cL_law 780 = .ok (.iconst 0, 1) := by decide +kernel
theorem dL_law_781 : decode cL_law 781 = .ok (.ireturn, 1) := by decide +kernel
theorem dL_law_782 : decode cL_law 782 = .ok (.aload_n 1, 1) := by decide +kernel
theorem dL_law_783 : decode cL_law 783 = .ok (.aload_n 0, 1) := by decide +kernel
theorem dL_law_784 : decode cL_law 784 = .ok (.iload_n 3, 1) := by decide +kernel
theorem dL_law_785 : decode cL_law 785 = .ok (.iconst 1, 1) := by decide +kernel
theorem dL_law_786 : decode cL_law 786 = .ok (.iadd, 1) := by decide +kernel
theorem dL_law_787 : decode cL_law 787 = .ok (.iaload, 1) := by decide +kernel
theorem dL_law_788 : decode cL_law 788 = .ok (.aload_n 0, 1) := by decide +kernel
theorem dL_law_789 : decode cL_law 789 = .ok (.iload_n 3, 1) := by decide +kernel
theorem dL_law_790 : decode cL_law 790 = .ok (.iconst 2, 1) := by decide +kernel
theorem dL_law_791 : decode cL_law 791 = .ok (.iadd, 1) := by decide +kernel
theorem dL_law_792 : decode cL_law 792 = .ok (.iaload, 1) := by decide +kernel
theorem dL_law_793 : decode cL_law 793 = .ok (.aload_n 0, 1) := by decide +kernel
theorem dL_law_794 : decode cL_law 794 = .ok (.iload_n 3, 1) := by decide +kernel
theorem dL_law_795 : decode cL_law 795 = .ok (.iconst 3, 1) := by decide +kernel
theorem dL_law_796 : decode cL_law 796 = .ok (.iadd, 1) := by decide +kernel
theorem dL_law_797 : decode cL_law 797 = .ok (.iaload, 1) := by decide +kernel
theorem dL_law_798 : decode cL_law 798 = .ok (.invokevirtual 108, 3) := by decide +kernel
theorem dL_law_801 : decode cL_law 801 = .ok (.aload_n 2, 1) := by decide +kernel
theorem dL_law_802 : decode cL_law 802 = .ok (.aload_n 0, 1) := by decide +kernel
theorem dL_law_803 : decode cL_law 803 = .ok (.iload_n 3, 1) := by decide +kernel
theorem dL_law_804 : decode cL_law 804 = .ok (.iconst 1, 1) := by decide +kernel
theorem dL_law_805 : decode cL_law 805 = .ok (.iadd, 1) := by decide +kernel
theorem dL_law_806 : decode cL_law 806 = .ok (.iaload, 1) := by decide +kernel
theorem dL_law_807 : decode cL_law 807 = .ok (.aload_n 0, 1) := by decide +kernel
theorem dL_law_808 : decode cL_law 808 = .ok (.iload_n 3, 1) := by decide +kernel
theorem dL_law_809 : decode cL_law 809 = .ok (.iconst 2, 1) := by decide +kernel
theorem dL_law_810 : decode cL_law 810 = .ok (.iadd, 1) := by decide +kernel
theorem dL_law_811 : decode cL_law 811 = .ok (.iaload, 1) := by decide +kernel
theorem dL_law_812 : decode cL_law 812 = .ok (.aload_n 0, 1) := by decide +kernel
theorem dL_law_813 : decode cL_law 813 = .ok (.iload_n 3, 1) := by decide +kernel
theorem dL_law_814 : decode cL_law 814 = .ok (.iconst 3, 1) := by decide +kernel
theorem dL_law_815 : decode cL_law 815 = .ok (.iadd, 1) := by decide +kernel
theorem dL_law_816 : decode cL_law 816 = .ok (.iaload, 1) := by decide +kernel
theorem dL_law_817 : decode cL_law 817 = .ok (.invokevirtual 111, 3) := by decide +kernel
theorem dL_law_820 : decode cL_law 820 = .ok (.if_icmp .eq 74, 3) := by decide +kernel
theorem dL_law_823 : decode cL_law 823 = .ok (.iconst 0, 1) := by decide +kernel
theorem dL_law_824 : decode cL_law 824 = .ok (.ireturn, 1) := by decide +kernel
theorem dL_law_825 : decode cL_law 825 = .ok (.aload_n 1, 1) := by decide +kernel
theorem dL_law_826 : decode cL_law 826 = .ok (.aload_n 0, 1) := by decide +kernel
theorem dL_law_827 : decode cL_law 827 = .ok (.iload_n 3, 1) := by decide +kernel
theorem dL_law_828 : decode cL_law 828 = .ok (.iconst 1, 1) := by decide +kernel
theorem dL_law_829 : decode cL_law 829 = .ok (.iadd, 1) := by decide +kernel
theorem dL_law_830 : decode cL_law 830 = .ok (.iaload, 1) := by decide +kernel
theorem dL_law_831 : decode cL_law 831 = .ok (.invokevirtual 112, 3) := by decide +kernel
theorem dL_law_834 : decode cL_law 834 = .ok (.aload_n 2, 1) := by decide +kernel
theorem dL_law_835 : decode cL_law 835 = .ok (.aload_n 0, 1) := by decide +kernel
theorem dL_law_836 : decode cL_law 836 = .ok (.iload_n 3, 1) := by decide +kernel
theorem dL_law_837 : decode cL_law 837 = .ok (.iconst 1, 1) := by decide +kernel
theorem dL_law_838 : decode cL_law 838 = .ok (.iadd, 1) := by decide +kernel
theorem dL_law_839 : decode cL_law 839 = .ok (.iaload, 1) := by decide +kernel
theorem dL_law_840 : decode cL_law 840 = .ok (.invokevirtual 115, 3) := by decide +kernel
theorem dL_law_843 : decode cL_law 843 = .ok (.if_icmp .eq 51, 3) := by decide +kernel
theorem dL_law_846 : decode cL_law 846 = .ok (.iconst 0, 1) := by decide +kernel
theorem dL_law_847 : decode cL_law 847 = .ok (.ireturn, 1) := by decide +kernel
theorem dL_law_848 : decode cL_law 848 = .ok (.aload_n 1, 1) := by decide +kernel
theorem dL_law_849 : decode cL_law 849 = .ok (.aload_n 0, 1) := by decide +kernel
theorem dL_law_850 : decode cL_law 850 = .ok (.iload_n 3, 1) := by decide +kernel
theorem dL_law_851 : decode cL_law 851 = .ok (.iconst 1, 1) := by decide +kernel
theorem dL_law_852 : decode cL_law 852 = .ok (.iadd, 1) := by decide +kernel
theorem dL_law_853 : decode cL_law 853 = .ok (.iaload, 1) := by decide +kernel
theorem dL_law_854 : decode cL_law 854 = .ok (.invokevirtual 116, 3) := by decide +kernel
theorem dL_law_857 : decode cL_law 857 = .ok (.aload_n 2, 1) := by decide +kernel
theorem dL_law_858 : decode cL_law 858 = .ok (.aload_n 0, 1) := by decide +kernel
theorem dL_law_859 : decode cL_law 859 = .ok (.iload_n 3, 1) := by decide +kernel
theorem dL_law_860 : decode cL_law 860 = .ok (.iconst 1, 1) := by decide +kernel
theorem dL_law_861 : decode cL_law 861 = .ok (.iadd, 1) := by decide +kernel
theorem dL_law_862 : decode cL_law 862 = .ok (.iaload, 1) := by decide +kernel
theorem dL_law_863 : decode cL_law 863 = .ok (.invokevirtual 119, 3) := by decide +kernel
theorem dL_law_866 : decode cL_law 866 = .ok (.if_icmp .eq 28, 3) := by decide +kernel
theorem dL_law_869 : decode cL_law 869 = .ok (.iconst 0, 1) := by decide +kernel
theorem dL_law_870 : decode cL_law 870 = .ok (.ireturn, 1) := by decide +kernel
theorem dL_law_871 : decode cL_law 871 = .ok (.aload_n 1, 1) := by decide +kernel
theorem dL_law_872 : decode cL_law 872 = .ok (.aload_n 0, 1) := by decide +kernel
theorem dL_law_873 : decode cL_law 873 = .ok (.iload_n 3, 1) := by decide +kernel
theorem dL_law_874 : decode cL_law 874 = .ok (.iconst 1, 1) := by decide +kernel
theorem dL_law_875 : decode cL_law 875 = .ok (.iadd, 1) := by decide +kernel
theorem dL_law_876 : decode cL_law 876 = .ok (.iaload, 1) := by decide +kernel
theorem dL_law_877 : decode cL_law 877 = .ok (.invokevirtual 120, 3) := by decide +kernel
theorem dL_law_880 : decode cL_law 880 = .ok (.aload_n 2, 1) := by decide +kernel
theorem dL_law_881 : decode cL_law 881 = .ok (.aload_n 0, 1) := by decide +kernel
theorem dL_law_882 : decode cL_law 882 = .ok (.iload_n 3, 1) := by decide +kernel
theorem dL_law_883 : decode cL_law 883 = .ok (.iconst 1, 1) := by decide +kernel
theorem dL_law_884 : decode cL_law 884 = .ok (.iadd, 1) := by decide +kernel
theorem dL_law_885 : decode cL_law 885 = .ok (.iaload, 1) := by decide +kernel
theorem dL_law_886 : decode cL_law 886 = .ok (.invokevirtual 123, 3) := by decide +kernel
theorem dL_law_889 : decode cL_law 889 = .ok (.if_icmp .eq 5, 3) := by decide +kernel
theorem dL_law_892 : decode cL_law 892 = .ok (.iconst 0, 1) := by decide +kernel
theorem dL_law_893 : decode cL_law 893 = .ok (.ireturn, 1) := by decide +kernel
theorem dL_law_894 : decode cL_law 894 = .ok (.iinc 3 6, 3) := by decide +kernel
theorem dL_law_897 : decode cL_law 897 = .ok (.goto (-879), 3) := by decide +kernel
theorem dL_law_900 : decode cL_law 900 = .ok (.iconst 1, 1) := by decide +kernel
theorem dL_law_901 : decode cL_law 901 = .ok (.ireturn, 1) := by decide +kernel
abbrev vwCl : List vw_C := [(RX0, TX0, 12), (RX1, TX1, 5), (RX2, TX2, 2), (RX3, TX3, 5), (RX4, TX4, 6), (RX5, TX5, 24)]
end
section
/-! plain facts on numbers and arrays, to paste: each family by itself; over the kit's rows on nI and upd -/
/-! ===== order of ints, in all its forms, and through longs ===== -/
theorem fa_lt (a b : Int32) : a < b ↔ a.toInt < b.toInt := Int32.lt_iff_toInt_lt
theorem fa_le (a b : Int32) : a ≤ b ↔ a.toInt ≤ b.toInt := Int32.le_iff_toInt_le
theorem fa_eq (a b : Int32) : a = b ↔ a.toInt = b.toInt := Int32.toInt_inj.symm
theorem fa_lt64 (a b : Int64) : a < b ↔ a.toInt < b.toInt := Int64.lt_iff_toInt_lt
theorem fa_le64 (a b : Int64) : a ≤ b ↔ a.toInt ≤ b.toInt := Int64.le_iff_toInt_le
theorem fa_eq64 (a b : Int64) : a = b ↔ a.toInt = b.toInt := Int64.toInt_inj.symm
/-- a comparison of two ints taken as longs -/
theorem fa_wide_lt (a b : Int32) : a.toInt64 < b.toInt64 ↔ a < b := by rw [fa_lt64, fa_lt, Int32.toInt_toInt64, Int32.toInt_toInt64]
theorem fa_wide_le (a b : Int32) : a.toInt64 ≤ b.toInt64 ↔ a ≤ b := by rw [fa_le64, fa_le, Int32.toInt_toInt64, Int32.toInt_toInt64]
theorem fa_wide_eq (a b : Int32) : a.toInt64 = b.toInt64 ↔ a = b := by rw [fa_eq64, fa_eq, Int32.toInt_toInt64, Int32.toInt_toInt64]
/-- one strict comparison gives all the others -/
theorem fa_of_lt {a b : Int32} (h : a < b) : a ≤ b ∧ ¬ b ≤ a ∧ ¬ b < a ∧ a ≠ b ∧ b ≠ a := by
  rw [fa_lt] at h
  refine ⟨?_, ?_, ?_, ?_, ?_⟩
  · rw [fa_le]; omega
  · rw [fa_le]; omega
  · rw [fa_lt]; omega
  · intro e; rw [fa_eq] at e; omega
  · intro e; rw [fa_eq] at e; omega
theorem fa_of_nlt {a b : Int32} (h : ¬ a < b) : b ≤ a := by
  rw [fa_lt] at h
  rw [fa_le]
  omega
theorem fa_of_nle {a b : Int32} (h : ¬ a ≤ b) : b < a := by
  rw [fa_le] at h
  rw [fa_lt]
  omega
theorem fa_le_ne {a b : Int32} (h : a ≤ b) (h2 : a ≠ b) : a < b := by
  rw [fa_le] at h
  rw [fa_lt]
  have h3 : a.toInt ≠ b.toInt := fun e => h2 ((fa_eq a b).mpr e)
  omega
theorem fa_three (a b : Int32) : a < b ∨ a = b ∨ b < a := by
  rw [fa_lt, fa_lt, fa_eq]
  omega
theorem fa_trans {a b c : Int32} (h : a < b) (h2 : b ≤ c) : a < c := by
  rw [fa_lt] at *
  rw [fa_le] at h2
  omega
/-! ===== small literals as numbers ===== -/
theorem fa_lit (n : Nat) : (OfNat.ofNat n : Int32) = nI n := rfl
theorem fa_litL (n : Nat) : (OfNat.ofNat n : Int64) = lN n := rfl
/-! ===== bits of a number: 'or', masks, one bit ===== -/
theorem fa_and (a b : Nat) : nI a &&& nI b = nI (a &&& b) := by
  apply Int32.toBitVec_inj.1
  show BitVec.ofNat 32 a &&& BitVec.ofNat 32 b = BitVec.ofNat 32 (a &&& b)
  apply BitVec.eq_of_getLsbD_eq
  intro i hi
  simp [hi]
theorem fa_or (a b : Nat) : nI a ||| nI b = nI (a ||| b) := by
  apply Int32.toBitVec_inj.1
  show BitVec.ofNat 32 a ||| BitVec.ofNat 32 b = BitVec.ofNat 32 (a ||| b)
  apply BitVec.eq_of_getLsbD_eq
  intro i hi
  simp [hi]
/-- a remainder by a power of two, as a mask -/
theorem fa_mask (n k : Nat) : nI n &&& nI (2 ^ k - 1) = nI (n % 2 ^ k) := by rw [fa_and, Nat.and_two_pow_sub_one_eq_mod]
/-- 'or' of a high part and a low one that don't meet is their sum -/
theorem fa_or_sum {a k : Nat} (b : Nat) (h : a < 2 ^ k) : nI (2 ^ k * b) ||| nI a = nI (2 ^ k * b + a) := by rw [fa_or, Nat.two_pow_add_eq_or_of_lt h]
/-- one bit, by 'and' with a power of two -/
theorem fa_bit {n j : Nat} (hj : j < 31) : nI n &&& nI (2 ^ j) = 0 ↔ n.testBit j = false := by
  have h2 : (2 : Nat) ^ j < 2 ^ 31 := Nat.pow_lt_pow_right (by decide) hj
  have hle : n &&& 2 ^ j ≤ 2 ^ j := Nat.and_le_right
  have e : n &&& 2 ^ j = 0 ↔ n.testBit j = false := by
    constructor
    · intro h
      have h1 : (n &&& 2 ^ j).testBit j = false := by rw [h]; simp
      rw [Nat.testBit_and] at h1
      first | simpa using h1 | simpa [Nat.testBit_two_pow_self] using h1 | simpa [Nat.testBit_two_pow] using h1
    · intro h
      apply Nat.eq_of_testBit_eq
      intro i
      rw [Nat.testBit_and]
      by_cases hi : j = i
      · subst hi; simp [h]
      · first | (simp [Nat.testBit_two_pow, hi]; done) | (simp [Nat.testBit_two_pow_of_ne hi]; done)
  rw [fa_and]
  constructor
  · intro h
    apply e.mp
    rcases Nat.eq_zero_or_pos (n &&& 2 ^ j) with z | z
    · exact z
    · exact absurd h (nI_ne0 z (Nat.lt_of_le_of_lt hle h2))
  · intro h
    rw [e.mpr h]; exact nI_0
/-- a remainder by a power of two of a number that isn't negative, as Java divides -/
theorem fa_rem {a k : Nat} (ha : a < 2 ^ 31) (hk : k < 31) : nI a - nI a / nI (2 ^ k) * nI (2 ^ k) = nI (a % 2 ^ k) := pk_rem ha (Nat.two_pow_pos k) (Nat.pow_lt_pow_right (by decide) hk)
/-! ===== cuts to a byte, a short ===== -/
theorem fa_byte_xor (x y : Int32) : (x ^^^ y).toInt8 = x.toInt8 ^^^ y.toInt8 := by
  apply Int8.toBitVec_inj.1
  apply BitVec.eq_of_getLsbD_eq
  intro i hi
  first | (simp [hi]; done) | (simp [hi, BitVec.getLsbD_setWidth, BitVec.getLsbD_signExtend]; done)
theorem fa_short_xor (x y : Int32) : (x ^^^ y).toInt16 = x.toInt16 ^^^ y.toInt16 := by
  apply Int16.toBitVec_inj.1
  apply BitVec.eq_of_getLsbD_eq
  intro i hi
  first | (simp [hi]; done) | (simp [hi, BitVec.getLsbD_setWidth, BitVec.getLsbD_signExtend]; done)
/-- the cut to a byte sees the low byte alone -/
theorem fa_byte_low (x : Int32) : (x &&& 255).toInt8 = x.toInt8 := by
  apply Int8.toBitVec_inj.1
  apply BitVec.eq_of_getLsbD_eq
  intro i hi
  have h2 : (255 : Int32).toBitVec.getLsbD i = true := by
    have : ∀ j : Fin 8, (255 : Int32).toBitVec.getLsbD j.val = true := by decide +kernel
    exact this ⟨i, hi⟩
  have h4 : (x &&& 255).toBitVec.getLsbD i = x.toBitVec.getLsbD i := by
    show (x.toBitVec &&& (255 : Int32).toBitVec).getLsbD i = _
    rw [BitVec.getLsbD_and, h2, Bool.and_true]
  have h3 : i < 32 := by omega
  first
    | (show (((x &&& 255).toBitVec).signExtend 8).getLsbD i = (x.toBitVec.signExtend 8).getLsbD i; rw [BitVec.getLsbD_signExtend, BitVec.getLsbD_signExtend, if_pos h3, if_pos h3, h4])
    | (show (((x &&& 255).toBitVec).setWidth 8).getLsbD i = (x.toBitVec.setWidth 8).getLsbD i; rw [BitVec.getLsbD_setWidth, BitVec.getLsbD_setWidth, h4])
    | (simp [hi, h3, h4]; done)
theorem fa_short_low (x : Int32) : (x &&& 65535).toInt16 = x.toInt16 := by
  apply Int16.toBitVec_inj.1
  apply BitVec.eq_of_getLsbD_eq
  intro i hi
  have h2 : (65535 : Int32).toBitVec.getLsbD i = true := by
    have : ∀ j : Fin 16, (65535 : Int32).toBitVec.getLsbD j.val = true := by decide +kernel
    exact this ⟨i, hi⟩
  have h4 : (x &&& 65535).toBitVec.getLsbD i = x.toBitVec.getLsbD i := by
    show (x.toBitVec &&& (65535 : Int32).toBitVec).getLsbD i = _
    rw [BitVec.getLsbD_and, h2, Bool.and_true]
  have h3 : i < 32 := by omega
  first
    | (show (((x &&& 65535).toBitVec).signExtend 16).getLsbD i = (x.toBitVec.signExtend 16).getLsbD i; rw [BitVec.getLsbD_signExtend, BitVec.getLsbD_signExtend, if_pos h3, if_pos h3, h4])
    | (show (((x &&& 65535).toBitVec).setWidth 16).getLsbD i = (x.toBitVec.setWidth 16).getLsbD i; rw [BitVec.getLsbD_setWidth, BitVec.getLsbD_setWidth, h4])
    | (simp [hi, h3, h4]; done)
/-- a small number is its own byte, its own short -/
theorem fa_byte_small {n : Nat} (h : n < 128) : (nI n).toInt8.toInt32 = nI n := by
  have : ∀ j : Fin 128, (nI j.val).toInt8.toInt32 = nI j.val := by decide +kernel
  exact this ⟨n, h⟩
/-! ===== absolute difference ===== -/
theorem fa_absdiff {a b : Nat} (ha : a < 2 ^ 31) (hb : b < 2 ^ 31) : (if nI a < nI b then nI b - nI a else nI a - nI b) = nI (if a < b then b - a else a - b) := by
  by_cases h : a < b
  · rw [if_pos (nI_lt h hb), if_pos h]
    exact pk_sub (Nat.le_of_lt h)
  · rw [if_neg (nI_nlt (Nat.le_of_not_lt h) ha), if_neg h]
    exact pk_sub (Nat.le_of_not_lt h)
/-! ===== an array behind i stores, a conditional store, a row copied ===== -/
/-- f where k < i, what stood there else -/
def fa_fill {α : Type} (f g : Nat → α) (i : Nat) : Nat → α := fun k => if k < i then f k else g k
theorem fa_fill_0 {α : Type} (f g : Nat → α) : fa_fill f g 0 = g := funext fun k => if_neg (Nat.not_lt_zero k)
theorem fa_fill_in {α : Type} {f g : Nat → α} {i k : Nat} (h : k < i) : fa_fill f g i k = f k := if_pos h
theorem fa_fill_out {α : Type} {f g : Nat → α} {i k : Nat} (h : i ≤ k) : fa_fill f g i k = g k := if_neg (Nat.not_lt.mpr h)
theorem fa_fill_succ (f g : Nat → Int32) (i : Nat) : upd (fa_fill f g i) i (f i) = fa_fill f g (i + 1) := by
  funext k
  by_cases e : k = i
  · subst e
    rw [pk_us]
    exact (if_pos (Nat.lt_succ_self k)).symm
  · rw [pk_un e]
    by_cases h : k < i
    · rw [fa_fill_in h, fa_fill_in (Nat.lt_succ_of_lt h)]
    · rw [fa_fill_out (Nat.le_of_not_lt h), fa_fill_out (by omega)]
/-- a store that changes nothing -/
theorem fa_upd_same {f : Nat → Int32} {i : Nat} {x : Int32} (h : f i = x) : upd f i x = f := by
  funext k
  by_cases e : k = i
  · subst e
    rw [pk_us, h]
  · rw [pk_un e]
/-- a store under a condition, told as one -/
theorem fa_upd_if (c : Prop) [Decidable c] (f : Nat → Int32) (i : Nat) (x : Int32) : (if c then upd f i x else f) = upd f i (if c then x else f i) := by
  by_cases h : c
  · rw [if_pos h, if_pos h]
  · rw [if_neg h, if_neg h, fa_upd_same rfl]
/-- two stores at one place, at two -/
theorem fa_upd_twice (f : Nat → Int32) (i : Nat) (x y : Int32) : upd (upd f i x) i y = upd f i y := by
  funext k
  by_cases e : k = i
  · subst e
    rw [pk_us, pk_us]
  · rw [pk_un e, pk_un e, pk_un e]
theorem fa_upd_swap (f : Nat → Int32) {i j : Nat} (h : i ≠ j) (x y : Int32) : upd (upd f i x) j y = upd (upd f j y) i x := by
  funext k
  by_cases e : k = i
  · subst e
    rw [pk_un h, pk_us, pk_us]
  · by_cases e2 : k = j
    · subst e2
      rw [pk_us, pk_un e, pk_us]
    · rw [pk_un e2, pk_un e, pk_un e, pk_un e2]
/-! ===== the first index with a property; a count ===== -/
/-- the first k < n with p k, n if there is none -/
def fa_first (p : Nat → Bool) : Nat → Nat
  | 0 => 0
  | n + 1 => if fa_first p n < n then fa_first p n else if p n then n else n + 1
theorem fa_first_le (p : Nat → Bool) : ∀ n, fa_first p n ≤ n
  | 0 => Nat.le_refl 0
  | n + 1 => by
    have ih := fa_first_le p n
    unfold fa_first
    split
    · omega
    · split
      · omega
      · omega
theorem fa_first_no (p : Nat → Bool) : ∀ n k, k < fa_first p n → p k = false
  | 0, k, h => absurd h (Nat.not_lt_zero k)
  | n + 1, k, h => by
    have ih := fa_first_no p n
    have hl := fa_first_le p n
    unfold fa_first at h
    split at h
    · exact ih k h
    · rename_i h1
      split at h
      · exact ih k (by omega)
      · rename_i h2
        by_cases e : k = n
        · subst e
          exact Bool.eq_false_iff.mpr h2
        · exact ih k (by omega)
theorem fa_first_yes (p : Nat → Bool) : ∀ n, fa_first p n < n → p (fa_first p n) = true
  | 0, h => absurd h (Nat.not_lt_zero _)
  | n + 1, h => by
    have ih := fa_first_yes p n
    have hl := fa_first_le p n
    unfold fa_first at h ⊢
    split at h
    · rename_i h1
      rw [if_pos h1]
      exact ih h1
    · rename_i h1
      rw [if_neg h1]
      split at h
      · rename_i h2
        rw [if_pos h2]
        exact h2
      · omega
/-- how many k < n have p k -/
def fa_cnt (p : Nat → Bool) : Nat → Nat
  | 0 => 0
  | n + 1 => fa_cnt p n + if p n then 1 else 0
theorem fa_cnt_le (p : Nat → Bool) : ∀ n, fa_cnt p n ≤ n
  | 0 => Nat.le_refl 0
  | n + 1 => by
    have ih := fa_cnt_le p n
    unfold fa_cnt
    split
    · omega
    · omega
theorem fa_cnt_yes {p : Nat → Bool} {n : Nat} (h : p n = true) : fa_cnt p (n + 1) = fa_cnt p n + 1 := by rw [fa_cnt, if_pos h]
theorem fa_cnt_no {p : Nat → Bool} {n : Nat} (h : p n = false) : fa_cnt p (n + 1) = fa_cnt p n := by rw [fa_cnt, if_neg (by rw [h]; decide)]; rfl
theorem fa_cnt_cong {p q : Nat → Bool} : ∀ {n : Nat}, (∀ k, k < n → p k = q k) → fa_cnt p n = fa_cnt q n
  | 0, _ => rfl
  | n + 1, h => by rw [fa_cnt, fa_cnt, fa_cnt_cong (fun k hk => h k (Nat.lt_succ_of_lt hk)), h n (Nat.lt_succ_self n)]
/-! ===== an answer carried into a post; a branch on a boolean answer ===== -/
theorem fa_post {α : Type} {P : α → Prop} {x y : α} (h : x = y) (hp : P y) : P x := h ▸ hp
theorem fa_post2 {α β : Type} {P : α → β → Prop} {x y : α} {u v : β} (h : x = y) (h2 : u = v) (hp : P y v) : P x u := h ▸ h2 ▸ hp
theorem fa_bool {r : Int32} {b : Bool} (h : r = if b then 1 else 0) : (r = 0 ↔ b = false) ∧ (¬ r = 0 ↔ b = true) := by
  subst h
  cases b
  · exact ⟨⟨fun _ => rfl, fun _ => rfl⟩, ⟨fun h => absurd rfl h, fun h => absurd h (by decide)⟩⟩
  · exact ⟨⟨fun h => absurd h (by decide), fun h => absurd h (by decide)⟩, ⟨fun _ => rfl, fun _ => by decide⟩⟩
/-- a boolean's narrowing changes nothing -/
theorem fa_bool_and {r : Int32} (h : r = 0 ∨ r = 1) : r &&& 1 = r := by
  rcases h with rfl | rfl
  · decide
  · decide
theorem fa_bool_prop {c : Prop} [Decidable c] {r : Int32} (h : r = if c then 1 else 0) : (r = 0 ↔ ¬ c) ∧ (¬ r = 0 ↔ c) := by
  subst h
  by_cases hc : c
  · rw [if_pos hc]
    exact ⟨⟨fun h => absurd h (by decide), fun h => absurd hc h⟩, ⟨fun _ => hc, fun _ => by decide⟩⟩
  · rw [if_neg hc]
    exact ⟨⟨fun _ => hc, fun _ => rfl⟩, ⟨fun h => absurd rfl h, fun h => absurd h hc⟩⟩
/-! plain facts to paste, each family by itself; over the kit's nI, lN and upd -/
/-! ===== drawers: more things than places ===== -/
theorem fb_holes : ∀ (m n : Nat) (f : Nat → Nat), (∀ i, i < n → f i < m) → (∀ i j, i < j → j < n → f i ≠ f j) → n ≤ m := by
  intro m
  induction m with
  | zero =>
    intro n f h1 _
    rcases Nat.eq_zero_or_pos n with h | h
    · omega
    · exact absurd (h1 0 h) (Nat.not_lt_zero _)
  | succ m ih =>
    intro n f h1 h2
    by_cases hx : ∃ i, i < n ∧ f i = m
    · obtain ⟨a, ha, hfa⟩ := hx
      have hg := ih (n - 1) (fun i => if i < a then f i else f (i + 1)) (by
        intro i hi
        by_cases q : i < a
        · simp only [if_pos q]
          have b1 := h1 i (by omega)
          have b2 := h2 i a q ha
          omega
        · simp only [if_neg q]
          have b1 := h1 (i + 1) (by omega)
          have b2 := h2 a (i + 1) (by omega) (by omega)
          omega) (by
        intro i j hij hj
        by_cases q : i < a
        · by_cases r : j < a
          · simp only [if_pos q, if_pos r]
            exact h2 i j hij (by omega)
          · simp only [if_pos q, if_neg r]
            exact h2 i (j + 1) (by omega) (by omega)
        · have r : ¬ j < a := by omega
          simp only [if_neg q, if_neg r]
          exact h2 (i + 1) (j + 1) (by omega) (by omega))
      omega
    · have hg := ih n f (fun i hi => by
        have b1 := h1 i hi
        have b2 : f i ≠ m := fun e => hx ⟨i, hi, e⟩
        omega) h2
      omega
/-- two of them in one place -/
theorem fb_twice {m n : Nat} {f : Nat → Nat} (h : ∀ i, i < n → f i < m) (hm : m < n) : ∃ i j, i < j ∧ j < n ∧ f i = f j := by
  refine Classical.byContradiction fun hx => ?_
  have := fb_holes m n f h (fun i j hij hj e => hx ⟨i, j, hij, hj, e⟩)
  omega
/-- as many as places, none twice: each place is taken -/
theorem fb_onto {n : Nat} {f : Nat → Nat} (h : ∀ i, i < n → f i < n) (h2 : ∀ i j, i < j → j < n → f i ≠ f j) {y : Nat} (hy : y < n) : ∃ i, i < n ∧ f i = y := by
  refine Classical.byContradiction fun hx => ?_
  have hne : ∀ i, i < n → f i ≠ y := fun i hi e => hx ⟨i, hi, e⟩
  have := fb_holes (n - 1) n (fun i => if f i < y then f i else f i - 1) (by
    intro i hi
    have b1 := h i hi
    have b2 := hne i hi
    by_cases q : f i < y
    · simp only [if_pos q]; omega
    · simp only [if_neg q]; omega) (by
    intro i j hij hj
    have b1 := hne i (by omega)
    have b2 := hne j hj
    have b3 := h2 i j hij hj
    by_cases q : f i < y
    · by_cases r : f j < y
      · simp only [if_pos q, if_pos r]; exact b3
      · simp only [if_pos q, if_neg r]; omega
    · by_cases r : f j < y
      · simp only [if_neg q, if_pos r]; omega
      · simp only [if_neg q, if_neg r]; omega)
  omega
/-! ===== how many places have a property ===== -/
def fb_ct (p : Nat → Bool) : Nat → Nat
  | 0 => 0
  | n + 1 => fb_ct p n + (if p n then 1 else 0)
theorem fb_ct_succ (p : Nat → Bool) (n : Nat) : fb_ct p (n + 1) = fb_ct p n + (if p n then 1 else 0) := rfl
theorem fb_ct_le (p : Nat → Bool) : ∀ n, fb_ct p n ≤ n
  | 0 => Nat.le_refl _
  | n + 1 => by
    have h := fb_ct_le p n
    rw [fb_ct_succ]
    split <;> omega
theorem fb_ct_step (p : Nat → Bool) (m : Nat) : ∀ n, fb_ct p m ≤ fb_ct p (m + n)
  | 0 => Nat.le_refl _
  | n + 1 => by
    have h := fb_ct_step p m n
    show fb_ct p m ≤ fb_ct p (m + n + 1)
    rw [fb_ct_succ]
    omega
theorem fb_ct_mono (p : Nat → Bool) {m n : Nat} (h : m ≤ n) : fb_ct p m ≤ fb_ct p n := by
  have := fb_ct_step p m (n - m)
  rwa [Nat.add_sub_cancel' h] at this
theorem fb_ct_cong {p q : Nat → Bool} : ∀ {n : Nat}, (∀ k, k < n → p k = q k) → fb_ct p n = fb_ct q n
  | 0, _ => rfl
  | n + 1, h => by
    rw [fb_ct_succ, fb_ct_succ, fb_ct_cong (fun k hk => h k (by omega)), h n (by omega)]
/-- one place changed -/
theorem fb_ct_out (p : Nat → Bool) (b : Bool) {i n : Nat} (h : n ≤ i) : fb_ct (fun k => if k = i then b else p k) n = fb_ct p n :=
  fb_ct_cong fun k hk => if_neg (by omega)
theorem fb_ct_upd (p : Nat → Bool) (b : Bool) {i : Nat} : ∀ {n : Nat}, i < n → fb_ct (fun k => if k = i then b else p k) n + (if p i then 1 else 0) = fb_ct p n + (if b then 1 else 0)
  | 0, h => absurd h (Nat.not_lt_zero i)
  | n + 1, h => by
    rw [fb_ct_succ, fb_ct_succ]
    rcases Nat.lt_or_ge i n with q | q
    · have := fb_ct_upd p b q
      have e : (if n = i then b else p n) = p n := if_neg (by omega)
      rw [e]
      omega
    · have e : i = n := by omega
      subst e
      rw [fb_ct_out p b (Nat.le_refl _)]
      simp only [if_true]
      omega
theorem fb_ct_sub {p q : Nat → Bool} : ∀ {n : Nat}, (∀ k, k < n → p k = true → q k = true) → fb_ct p n ≤ fb_ct q n
  | 0, _ => Nat.le_refl _
  | n + 1, h => by
    have h1 := fb_ct_sub (n := n) (p := p) (q := q) (fun k hk => h k (by omega))
    have h2 := h n (by omega)
    rw [fb_ct_succ, fb_ct_succ]
    cases hp : p n <;> cases hq : q n <;> simp_all <;> omega
theorem fb_ct_or {p q : Nat → Bool} : ∀ {n : Nat}, (∀ k, k < n → ¬ (p k = true ∧ q k = true)) → fb_ct (fun k => p k || q k) n = fb_ct p n + fb_ct q n
  | 0, _ => rfl
  | n + 1, h => by
    have h1 := fb_ct_or (n := n) (p := p) (q := q) (fun k hk => h k (by omega))
    have h2 := h n (by omega)
    rw [fb_ct_succ, fb_ct_succ, fb_ct_succ, h1]
    cases hp : p n <;> cases hq : q n <;> simp_all <;> omega
theorem fb_ct_not (p : Nat → Bool) : ∀ n, fb_ct p n + fb_ct (fun k => !p k) n = n
  | 0 => rfl
  | n + 1 => by
    have h := fb_ct_not p n
    rw [fb_ct_succ, fb_ct_succ]
    cases p n <;> simp <;> omega
theorem fb_ct_split (p : Nat → Bool) (m : Nat) : ∀ n, fb_ct p (m + n) = fb_ct p m + fb_ct (fun k => p (m + k)) n
  | 0 => rfl
  | n + 1 => by
    have h := fb_ct_split p m n
    show fb_ct p (m + n + 1) = _
    rw [fb_ct_succ, fb_ct_succ, h, Nat.add_assoc]
theorem fb_ct_zero {p : Nat → Bool} : ∀ {n : Nat}, fb_ct p n = 0 ↔ ∀ k, k < n → p k = false
  | 0 => ⟨fun _ k hk => absurd hk (Nat.not_lt_zero k), fun _ => rfl⟩
  | n + 1 => by
    have h := fb_ct_zero (p := p) (n := n)
    rw [fb_ct_succ]
    constructor
    · intro e k hk
      have e1 : fb_ct p n = 0 := by omega
      rcases Nat.lt_or_ge k n with q | q
      · exact h.mp e1 k q
      · have ek : k = n := by omega
        subst ek
        cases hp : p k
        · rfl
        · simp [hp] at e
    · intro a
      rw [h.mpr (fun k hk => a k (by omega)), a n (by omega)]
      rfl
theorem fb_ct_pos {p : Nat → Bool} {n : Nat} : 0 < fb_ct p n ↔ ∃ k, k < n ∧ p k = true := by
  constructor
  · intro h
    refine Classical.byContradiction fun hx => ?_
    have := fb_ct_zero.mpr (fun k hk => by
      cases hp : p k
      · rfl
      · exact absurd ⟨k, hk, hp⟩ hx : ∀ k, k < n → p k = false)
    omega
  · rintro ⟨k, hk, hp⟩
    rcases Nat.eq_zero_or_pos (fb_ct p n) with e | e
    · have := fb_ct_zero.mp e k hk
      rw [this] at hp
      cases hp
    · exact e
theorem fb_ct_all {p : Nat → Bool} {n : Nat} : fb_ct p n = n ↔ ∀ k, k < n → p k = true := by
  have h := fb_ct_not p n
  constructor
  · intro e k hk
    have z : fb_ct (fun k => !p k) n = 0 := by omega
    have := fb_ct_zero.mp z k hk
    cases hp : p k
    · simp [hp] at this
    · rfl
  · intro a
    have z : fb_ct (fun k => !p k) n = 0 := fb_ct_zero.mpr (fun k hk => by simp [a k hk])
    omega
/-- the k-th place with the property -/
theorem fb_ct_kth {p : Nat → Bool} {k : Nat} : ∀ {n : Nat}, k < fb_ct p n → ∃ i, i < n ∧ p i = true ∧ fb_ct p i = k
  | 0, h => absurd h (Nat.not_lt_zero k)
  | n + 1, h => by
    rcases Nat.lt_or_ge k (fb_ct p n) with q | q
    · obtain ⟨i, h1, h2⟩ := fb_ct_kth q
      exact ⟨i, by omega, h2⟩
    · rw [fb_ct_succ] at h
      cases hp : p n
      · simp [hp] at h; omega
      · simp [hp] at h
        exact ⟨n, by omega, hp, by omega⟩
theorem fb_ct_kth_one {p : Nat → Bool} {i j : Nat} (hi : p i = true) (hj : p j = true) (e : fb_ct p i = fb_ct p j) : i = j := by
  have key : ∀ a b : Nat, a < b → p a = true → fb_ct p a < fb_ct p b := by
    intro a b hab ha
    have h := fb_ct_mono p (show a + 1 ≤ b from hab)
    rw [fb_ct_succ, ha] at h
    simp at h
    omega
  rcases Nat.lt_trichotomy i j with q | q | q
  · have := key i j q hi; omega
  · exact q
  · have := key j i q hj; omega
/-! ===== sums over a range: one place changed, parts, bounds ===== -/
def fb_sm (f : Nat → Nat) : Nat → Nat
  | 0 => 0
  | n + 1 => fb_sm f n + f n
theorem fb_sm_succ (f : Nat → Nat) (n : Nat) : fb_sm f (n + 1) = fb_sm f n + f n := rfl
theorem fb_sm_cong {f g : Nat → Nat} : ∀ {n : Nat}, (∀ k, k < n → f k = g k) → fb_sm f n = fb_sm g n
  | 0, _ => rfl
  | n + 1, h => by rw [fb_sm_succ, fb_sm_succ, fb_sm_cong (fun k hk => h k (by omega)), h n (by omega)]
theorem fb_sm_out (f : Nat → Nat) (v : Nat) {i n : Nat} (h : n ≤ i) : fb_sm (fun k => if k = i then v else f k) n = fb_sm f n :=
  fb_sm_cong fun k hk => if_neg (by omega)
theorem fb_sm_upd (f : Nat → Nat) (v : Nat) {i : Nat} : ∀ {n : Nat}, i < n → fb_sm (fun k => if k = i then v else f k) n + f i = fb_sm f n + v
  | 0, h => absurd h (Nat.not_lt_zero i)
  | n + 1, h => by
    rw [fb_sm_succ, fb_sm_succ]
    rcases Nat.lt_or_ge i n with q | q
    · have := fb_sm_upd f v q
      have e : (if n = i then v else f n) = f n := if_neg (by omega)
      rw [e]
      omega
    · have e : i = n := by omega
      subst e
      rw [fb_sm_out f v (Nat.le_refl _)]
      simp only [if_true]
      omega
theorem fb_sm_add (f g : Nat → Nat) : ∀ n, fb_sm (fun k => f k + g k) n = fb_sm f n + fb_sm g n
  | 0 => rfl
  | n + 1 => by
    have h := fb_sm_add f g n
    rw [fb_sm_succ, fb_sm_succ, fb_sm_succ, h]
    omega
theorem fb_sm_le {f g : Nat → Nat} : ∀ {n : Nat}, (∀ k, k < n → f k ≤ g k) → fb_sm f n ≤ fb_sm g n
  | 0, _ => Nat.le_refl _
  | n + 1, h => by
    have h1 := fb_sm_le (n := n) (f := f) (g := g) (fun k hk => h k (by omega))
    have h2 := h n (by omega)
    rw [fb_sm_succ, fb_sm_succ]
    omega
theorem fb_sm_const (c : Nat) : ∀ n, fb_sm (fun _ => c) n = n * c
  | 0 => by rw [Nat.zero_mul]; rfl
  | n + 1 => by rw [fb_sm_succ, fb_sm_const c n, Nat.succ_mul]
theorem fb_sm_bound {f : Nat → Nat} {c n : Nat} (h : ∀ k, k < n → f k ≤ c) : fb_sm f n ≤ n * c := by
  rw [← fb_sm_const c n]
  exact fb_sm_le h
theorem fb_sm_mono (f : Nat → Nat) (m : Nat) : ∀ n, fb_sm f m ≤ fb_sm f (m + n)
  | 0 => Nat.le_refl _
  | n + 1 => by
    have h := fb_sm_mono f m n
    show fb_sm f m ≤ fb_sm f (m + n + 1)
    rw [fb_sm_succ]
    omega
theorem fb_sm_part (f : Nat → Nat) {i n : Nat} (h : i < n) : fb_sm f i + f i ≤ fb_sm f n := by
  have := fb_sm_mono f (i + 1) (n - (i + 1))
  rw [fb_sm_succ, show i + 1 + (n - (i + 1)) = n by omega] at this
  exact this
theorem fb_sm_split (f : Nat → Nat) (m : Nat) : ∀ n, fb_sm f (m + n) = fb_sm f m + fb_sm (fun k => f (m + k)) n
  | 0 => rfl
  | n + 1 => by
    have h := fb_sm_split f m n
    show fb_sm f (m + n + 1) = _
    rw [fb_sm_succ, fb_sm_succ, h, Nat.add_assoc]
theorem fb_sm_zero {f : Nat → Nat} {n : Nat} (h : fb_sm f n = 0) : ∀ k, k < n → f k = 0 := fun k hk => by
  have := fb_sm_part f hk
  omega
/-- the same over whole numbers -/
def fb_si (f : Nat → Int) : Nat → Int
  | 0 => 0
  | n + 1 => fb_si f n + f n
theorem fb_si_succ (f : Nat → Int) (n : Nat) : fb_si f (n + 1) = fb_si f n + f n := rfl
theorem fb_si_cong {f g : Nat → Int} : ∀ {n : Nat}, (∀ k, k < n → f k = g k) → fb_si f n = fb_si g n
  | 0, _ => rfl
  | n + 1, h => by rw [fb_si_succ, fb_si_succ, fb_si_cong (fun k hk => h k (by omega)), h n (by omega)]
theorem fb_si_out (f : Nat → Int) (v : Int) {i n : Nat} (h : n ≤ i) : fb_si (fun k => if k = i then v else f k) n = fb_si f n :=
  fb_si_cong fun k hk => if_neg (by omega)
theorem fb_si_upd (f : Nat → Int) (v : Int) {i : Nat} : ∀ {n : Nat}, i < n → fb_si (fun k => if k = i then v else f k) n = fb_si f n - f i + v
  | 0, h => absurd h (Nat.not_lt_zero i)
  | n + 1, h => by
    rw [fb_si_succ, fb_si_succ]
    rcases Nat.lt_or_ge i n with q | q
    · have := fb_si_upd f v q
      have e : (if n = i then v else f n) = f n := if_neg (by omega)
      rw [e]
      omega
    · have e : i = n := by omega
      subst e
      rw [fb_si_out f v (Nat.le_refl _)]
      simp only [if_true]
      omega
theorem fb_si_add (f g : Nat → Int) : ∀ n, fb_si (fun k => f k + g k) n = fb_si f n + fb_si g n
  | 0 => rfl
  | n + 1 => by
    have h := fb_si_add f g n
    rw [fb_si_succ, fb_si_succ, fb_si_succ, h]
    omega
theorem fb_si_sub (f g : Nat → Int) : ∀ n, fb_si (fun k => f k - g k) n = fb_si f n - fb_si g n
  | 0 => rfl
  | n + 1 => by
    have h := fb_si_sub f g n
    rw [fb_si_succ, fb_si_succ, fb_si_succ, h]
    omega
theorem fb_si_mul (c : Int) (f : Nat → Int) : ∀ n, fb_si (fun k => c * f k) n = c * fb_si f n
  | 0 => (Int.mul_zero c).symm
  | n + 1 => by
    have h := fb_si_mul c f n
    rw [fb_si_succ, fb_si_succ, h, Int.mul_add]
theorem fb_si_split (f : Nat → Int) (m : Nat) : ∀ n, fb_si f (m + n) = fb_si f m + fb_si (fun k => f (m + k)) n
  | 0 => (Int.add_zero _).symm
  | n + 1 => by
    have h := fb_si_split f m n
    show fb_si f (m + n + 1) = _
    rw [fb_si_succ, fb_si_succ, h, Int.add_assoc]
theorem fb_si_nat (f : Nat → Nat) : ∀ n, fb_si (fun k => (f k : Int)) n = (fb_sm f n : Int)
  | 0 => rfl
  | n + 1 => by
    have h := fb_si_nat f n
    rw [fb_si_succ, fb_sm_succ, h]
    omega
theorem fb_si_bound {f : Nat → Int} {c : Int} (hc : 0 ≤ c) : ∀ {n : Nat}, (∀ k, k < n → -c ≤ f k ∧ f k ≤ c) → -(n * c) ≤ fb_si f n ∧ fb_si f n ≤ n * c
  | 0, _ => by simp [fb_si]
  | n + 1, h => by
    have h1 := fb_si_bound (n := n) (f := f) hc (fun k hk => h k (by omega))
    have h2 := h n (by omega)
    have e : ((n + 1 : Nat) : Int) * c = n * c + c := by rw [Int.natCast_add, Int.add_mul]; simp
    rw [fb_si_succ, e]
    omega
/-! ===== bits of a long that isn't negative ===== -/
theorem fb_andL (a b : Nat) : lN a &&& lN b = lN (a &&& b) := by
  apply Int64.toBitVec_inj.1
  show BitVec.ofNat 64 a &&& BitVec.ofNat 64 b = BitVec.ofNat 64 (a &&& b)
  apply BitVec.eq_of_getLsbD_eq
  intro i hi
  simp [hi]
theorem fb_orL (a b : Nat) : lN a ||| lN b = lN (a ||| b) := by
  apply Int64.toBitVec_inj.1
  show BitVec.ofNat 64 a ||| BitVec.ofNat 64 b = BitVec.ofNat 64 (a ||| b)
  apply BitVec.eq_of_getLsbD_eq
  intro i hi
  simp [hi]
theorem fb_xorL (a b : Nat) : lN a ^^^ lN b = lN (a ^^^ b) := by
  apply Int64.toBitVec_inj.1
  show BitVec.ofNat 64 a ^^^ BitVec.ofNat 64 b = BitVec.ofNat 64 (a ^^^ b)
  apply BitVec.eq_of_getLsbD_eq
  intro i hi
  simp [hi]
theorem fb_xorI (a b : Nat) : nI a ^^^ nI b = nI (a ^^^ b) := by
  apply Int32.toBitVec_inj.1
  show BitVec.ofNat 32 a ^^^ BitVec.ofNat 32 b = BitVec.ofNat 32 (a ^^^ b)
  apply BitVec.eq_of_getLsbD_eq
  intro i hi
  simp [hi]
theorem fb_maskL (n k : Nat) : lN n &&& lN (2 ^ k - 1) = lN (n % 2 ^ k) := by rw [fb_andL, Nat.and_two_pow_sub_one_eq_mod]
theorem fb_or_sumL {a k : Nat} (b : Nat) (h : a < 2 ^ k) : lN (2 ^ k * b) ||| lN a = lN (2 ^ k * b + a) := by rw [fb_orL, Nat.two_pow_add_eq_or_of_lt h]
theorem fb_lN_inj {a b : Nat} (ha : a < 2 ^ 63) (hb : b < 2 ^ 63) : lN a = lN b ↔ a = b := by
  constructor
  · intro h
    have h1 : (BitVec.ofNat 64 a).toNat = (BitVec.ofNat 64 b).toNat := congrArg (fun x : Int64 => x.toBitVec.toNat) h
    rw [BitVec.toNat_ofNat, BitVec.toNat_ofNat, Nat.mod_eq_of_lt (by omega), Nat.mod_eq_of_lt (by omega)] at h1
    exact h1
  · rintro rfl; rfl
theorem fb_bit_nat (n j : Nat) : n &&& 2 ^ j = 0 ↔ n.testBit j = false := by
  constructor
  · intro h
    have h1 : (n &&& 2 ^ j).testBit j = false := by rw [h]; simp
    rw [Nat.testBit_and] at h1
    simpa using h1
  · intro h
    apply Nat.eq_of_testBit_eq
    intro i
    rw [Nat.testBit_and]
    by_cases hi : j = i
    · subst hi; simp [h]
    · first | (simp [Nat.testBit_two_pow, hi]; done) | (simp [Nat.testBit_two_pow_of_ne hi]; done)
/-- one bit of a long -/
theorem fb_bitL {n j : Nat} (hj : j < 63) : lN n &&& lN (2 ^ j) = 0 ↔ n.testBit j = false := by
  have h2 : (2 : Nat) ^ j < 2 ^ 63 := Nat.pow_lt_pow_right (by decide) hj
  have hle : n &&& 2 ^ j ≤ 2 ^ j := Nat.and_le_right
  rw [fb_andL, ← fb_bit_nat, show (0 : Int64) = lN 0 from rfl]
  exact fb_lN_inj (by omega) (by decide)
/-- a bit set, a bit taken off -/
theorem fb_bit_set (n j i : Nat) : (n ||| 2 ^ j).testBit i = (n.testBit i || decide (i = j)) := by
  rw [Nat.testBit_or]
  by_cases h : j = i
  · subst h; simp
  · have h2 : ¬ i = j := fun e => h e.symm
    first | (simp [Nat.testBit_two_pow, h, h2]; done) | (simp [Nat.testBit_two_pow_of_ne h, h2]; done)
theorem fb_bit_flip (n j i : Nat) : (n ^^^ 2 ^ j).testBit i = (n.testBit i ^^ decide (i = j)) := by
  rw [Nat.testBit_xor]
  by_cases h : j = i
  · subst h; simp
  · have h2 : ¬ i = j := fun e => h e.symm
    first | (simp [Nat.testBit_two_pow, h, h2]; done) | (simp [Nat.testBit_two_pow_of_ne h, h2]; done)
/-! ===== a stretch of an array written over by a function ===== -/
def fb_put {α : Type} (f g : Nat → α) (a n : Nat) : Nat → α := fun k => if a ≤ k ∧ k < a + n then g (k - a) else f k
theorem fb_put_0 {α : Type} (f g : Nat → α) (a : Nat) : fb_put f g a 0 = f := funext fun k => if_neg (by omega)
theorem fb_put_in {α : Type} {f g : Nat → α} {a n k : Nat} (h1 : a ≤ k) (h2 : k < a + n) : fb_put f g a n k = g (k - a) := if_pos ⟨h1, h2⟩
theorem fb_put_out {α : Type} {f g : Nat → α} {a n k : Nat} (h : k < a ∨ a + n ≤ k) : fb_put f g a n k = f k := if_neg (by omega)
theorem fb_put_succ (f g : Nat → Int32) (a n : Nat) : upd (fb_put f g a n) (a + n) (g n) = fb_put f g a (n + 1) := by
  funext k
  by_cases h : k = a + n
  · subst h
    simp [upd, fb_put]
  · by_cases h1 : a ≤ k ∧ k < a + n
    · have h2 : a ≤ k ∧ k < a + (n + 1) := by omega
      simp only [upd, fb_put, if_neg h, if_pos h1, if_pos h2]
    · have h2 : ¬ (a ≤ k ∧ k < a + (n + 1)) := by omega
      simp only [upd, fb_put, if_neg h, if_neg h1, if_neg h2]
/-- .. from the far end down -/
theorem fb_put_down (f g : Nat → Int32) {a n m : Nat} (h : m < n) : upd (fb_put f (fun k => g (k + (m + 1))) (a + (m + 1)) (n - (m + 1))) (a + m) (g m) = fb_put f (fun k => g (k + m)) (a + m) (n - m) := by
  funext k
  by_cases h0 : k = a + m
  · subst h0
    simp only [upd, if_true]
    rw [fb_put_in (by omega) (by omega)]
    exact congrArg g (by omega)
  · simp only [upd, if_neg h0]
    by_cases h1 : a + (m + 1) ≤ k ∧ k < a + (m + 1) + (n - (m + 1))
    · rw [fb_put_in h1.1 h1.2, fb_put_in (by omega) (by omega)]
      exact congrArg g (by omega)
    · rw [fb_put_out (by omega), fb_put_out (by omega)]
theorem fb_put_cong {α : Type} {f f2 g g2 : Nat → α} {a n : Nat} (hf : ∀ k, (k < a ∨ a + n ≤ k) → f k = f2 k) (hg : ∀ k, k < n → g k = g2 k) : fb_put f g a n = fb_put f2 g2 a n := by
  funext k
  by_cases h : a ≤ k ∧ k < a + n
  · rw [fb_put_in h.1 h.2, fb_put_in h.1 h.2, hg _ (by omega)]
  · rw [fb_put_out (by omega), fb_put_out (by omega), hf _ (by omega)]
/-! ===== the least, the first, the best so far; that there is one alone ===== -/
theorem fb_first {p : Nat → Prop} [DecidablePred p] : ∀ {n : Nat}, (∃ i, i < n ∧ p i) → ∃ i, i < n ∧ p i ∧ ∀ j, j < i → ¬ p j
  | 0, h => by obtain ⟨i, hi, -⟩ := h; exact absurd hi (Nat.not_lt_zero i)
  | n + 1, h => by
    by_cases q : ∃ i, i < n ∧ p i
    · obtain ⟨i, h1, h2⟩ := fb_first q
      exact ⟨i, by omega, h2⟩
    · obtain ⟨i, h1, h2⟩ := h
      have e : i = n := by
        rcases Nat.lt_or_ge i n with r | r
        · exact absurd ⟨i, r, h2⟩ q
        · omega
      subst e
      exact ⟨i, by omega, h2, fun j hj hp => q ⟨j, hj, hp⟩⟩
theorem fb_first_one {p : Nat → Prop} {i j : Nat} (hi : p i) (hi2 : ∀ k, k < i → ¬ p k) (hj : p j) (hj2 : ∀ k, k < j → ¬ p k) : i = j := by
  rcases Nat.lt_trichotomy i j with q | q | q
  · exact absurd hi (hj2 i q)
  · exact q
  · exact absurd hj (hi2 j q)
theorem fb_last {p : Nat → Prop} [DecidablePred p] : ∀ {n : Nat}, (∃ i, i < n ∧ p i) → ∃ i, i < n ∧ p i ∧ ∀ j, i < j → j < n → ¬ p j
  | 0, h => by obtain ⟨i, hi, -⟩ := h; exact absurd hi (Nat.not_lt_zero i)
  | n + 1, h => by
    by_cases q : p n
    · exact ⟨n, by omega, q, fun j h1 h2 => by omega⟩
    · obtain ⟨i, h1, h2⟩ := h
      have hi : i < n := by
        rcases Nat.lt_or_ge i n with r | r
        · exact r
        · have e : i = n := by omega
          subst e
          exact absurd h2 q
      obtain ⟨i2, a1, a2, a3⟩ := fb_last (n := n) ⟨i, hi, h2⟩
      refine ⟨i2, by omega, a2, fun j b1 b2 => ?_⟩
      rcases Nat.lt_or_ge j n with r | r
      · exact a3 j b1 r
      · have e : j = n := by omega
        subst e
        exact q
/-- the first greatest -/
theorem fb_best (f : Nat → Int) : ∀ {n : Nat}, 0 < n → ∃ i, i < n ∧ (∀ j, j < n → f j ≤ f i) ∧ ∀ j, j < i → f j < f i
  | 0, h => absurd h (Nat.lt_irrefl 0)
  | 1, _ => ⟨0, by omega, fun j hj => by have e : j = 0 := by omega
                                         subst e; exact Int.le_refl _, fun j hj => absurd hj (Nat.not_lt_zero j)⟩
  | n + 2, _ => by
    obtain ⟨i, h1, h2, h3⟩ := fb_best f (n := n + 1) (by omega)
    by_cases q : f i < f (n + 1)
    · refine ⟨n + 1, by omega, fun j hj => ?_, fun j hj => ?_⟩
      · rcases Nat.lt_or_ge j (n + 1) with r | r
        · have := h2 j r; omega
        · have e : j = n + 1 := by omega
          subst e; exact Int.le_refl _
      · have := h2 j hj; omega
    · refine ⟨i, by omega, fun j hj => ?_, h3⟩
      rcases Nat.lt_or_ge j (n + 1) with r | r
      · exact h2 j r
      · have e : j = n + 1 := by omega
        subst e; omega
theorem fb_best_one {f : Nat → Int} {n i j : Nat} (hi : i < n) (hi2 : ∀ k, k < n → f k ≤ f i) (hi3 : ∀ k, k < i → f k < f i) (hj : j < n) (hj2 : ∀ k, k < n → f k ≤ f j) (hj3 : ∀ k, k < j → f k < f j) : i = j := by
  rcases Nat.lt_trichotomy i j with q | q | q
  · have a := hj3 i q
    have b := hi2 j hj
    omega
  · exact q
  · have a := hi3 j q
    have b := hj2 i hi
    omega
/-- the first least -/
theorem fb_low (f : Nat → Int) {n : Nat} (h : 0 < n) : ∃ i, i < n ∧ (∀ j, j < n → f i ≤ f j) ∧ ∀ j, j < i → f i < f j := by
  obtain ⟨i, h1, h2, h3⟩ := fb_best (fun k => -f k) h
  exact ⟨i, h1, fun j hj => by have := h2 j hj; omega, fun j hj => by have := h3 j hj; omega⟩
/-! ===== signed ints as whole numbers, within bounds ===== -/
theorem fb_rng (x : Int32) : -2147483648 ≤ x.toInt ∧ x.toInt < 2147483648 := by
  have h1 := Int32.le_toInt x
  have h2 := Int32.toInt_lt x
  omega
theorem fb_bmod {z : Int} (h1 : -2147483648 ≤ z) (h2 : z < 2147483648) : z.bmod (2 ^ 32) = z := by
  rw [Int.bmod_eq_of_le (by omega) (by omega)]
theorem fb_addI {x y : Int32} (h1 : -2147483648 ≤ x.toInt + y.toInt) (h2 : x.toInt + y.toInt < 2147483648) : (x + y).toInt = x.toInt + y.toInt := by
  rw [Int32.toInt_add, fb_bmod h1 h2]
theorem fb_subI {x y : Int32} (h1 : -2147483648 ≤ x.toInt - y.toInt) (h2 : x.toInt - y.toInt < 2147483648) : (x - y).toInt = x.toInt - y.toInt := by
  rw [Int32.toInt_sub, fb_bmod h1 h2]
theorem fb_mulI {x y : Int32} (h1 : -2147483648 ≤ x.toInt * y.toInt) (h2 : x.toInt * y.toInt < 2147483648) : (x * y).toInt = x.toInt * y.toInt := by
  rw [Int32.toInt_mul, fb_bmod h1 h2]
theorem fb_negI {x : Int32} (h : x.toInt ≠ -2147483648) : (-x).toInt = -x.toInt := by
  have := fb_rng x
  rw [Int32.toInt_neg, fb_bmod (by omega) (by omega)]
theorem fb_ofI {z : Int} (h1 : -2147483648 ≤ z) (h2 : z < 2147483648) : (Int32.ofInt z).toInt = z := by
  rw [Int32.toInt_ofInt, fb_bmod h1 h2]
theorem fb_asI (x : Int32) : Int32.ofInt x.toInt = x := Int32.ofInt_toInt x
theorem fb_rngL (x : Int64) : -9223372036854775808 ≤ x.toInt ∧ x.toInt < 9223372036854775808 := by
  have h1 := Int64.le_toInt x
  have h2 := Int64.toInt_lt x
  omega
theorem fb_bmodL {z : Int} (h1 : -9223372036854775808 ≤ z) (h2 : z < 9223372036854775808) : z.bmod (2 ^ 64) = z := by
  rw [Int.bmod_eq_of_le (by omega) (by omega)]
theorem fb_addL {x y : Int64} (h1 : -9223372036854775808 ≤ x.toInt + y.toInt) (h2 : x.toInt + y.toInt < 9223372036854775808) : (x + y).toInt = x.toInt + y.toInt := by
  rw [Int64.toInt_add, fb_bmodL h1 h2]
theorem fb_subL {x y : Int64} (h1 : -9223372036854775808 ≤ x.toInt - y.toInt) (h2 : x.toInt - y.toInt < 9223372036854775808) : (x - y).toInt = x.toInt - y.toInt := by
  rw [Int64.toInt_sub, fb_bmodL h1 h2]
theorem fb_mulL {x y : Int64} (h1 : -9223372036854775808 ≤ x.toInt * y.toInt) (h2 : x.toInt * y.toInt < 9223372036854775808) : (x * y).toInt = x.toInt * y.toInt := by
  rw [Int64.toInt_mul, fb_bmodL h1 h2]
/-! ===== cuts of what is narrow already ===== -/
theorem fb_byte {x : Int32} (h1 : -128 ≤ x.toInt) (h2 : x.toInt < 128) : x.toInt8.toInt32 = x := by
  apply Int32.toInt_inj.1
  rw [Int8.toInt_toInt32, Int32.toInt_toInt8, Int.bmod_eq_of_le (by omega) (by omega)]
theorem fb_short {x : Int32} (h1 : -32768 ≤ x.toInt) (h2 : x.toInt < 32768) : x.toInt16.toInt32 = x := by
  apply Int32.toInt_inj.1
  rw [Int16.toInt_toInt32, Int32.toInt_toInt16, Int.bmod_eq_of_le (by omega) (by omega)]
theorem fb_byte_rng (x : Int32) : -128 ≤ x.toInt8.toInt32.toInt ∧ x.toInt8.toInt32.toInt < 128 := by
  rw [Int8.toInt_toInt32]
  have h1 := Int8.le_toInt x.toInt8
  have h2 := Int8.toInt_lt x.toInt8
  omega
theorem fb_short_rng (x : Int32) : -32768 ≤ x.toInt16.toInt32.toInt ∧ x.toInt16.toInt32.toInt < 32768 := by
  rw [Int16.toInt_toInt32]
  have h1 := Int16.le_toInt x.toInt16
  have h2 := Int16.toInt_lt x.toInt16
  omega
theorem fb_byte_twice (x : Int32) : x.toInt8.toInt32.toInt8.toInt32 = x.toInt8.toInt32 := fb_byte (fb_byte_rng x).1 (fb_byte_rng x).2
theorem fb_short_twice (x : Int32) : x.toInt16.toInt32.toInt16.toInt32 = x.toInt16.toInt32 := fb_short (fb_short_rng x).1 (fb_short_rng x).2
theorem fb_char {n : Nat} (h : n < 65536) : (nI n).toUInt32.toUInt16.toUInt32.toInt32 = nI n := by
  apply Int32.toBitVec_inj.1
  apply BitVec.eq_of_toNat_eq
  have e1 : (nI n).toBitVec.toNat = n := by
    show (BitVec.ofNat 32 n).toNat = n
    rw [BitVec.toNat_ofNat, Nat.mod_eq_of_lt (by omega)]
  have e2 : ((nI n).toUInt32.toUInt16.toUInt32).toNat = n := by
    rw [UInt16.toNat_toUInt32, UInt32.toNat_toUInt16]
    show (nI n).toBitVec.toNat % 2 ^ 16 = n
    rw [e1, Nat.mod_eq_of_lt (by omega)]
  rw [e1]
  exact e2
end
section
/-! BASE: states of objects, worlds, starts and ends of contracts, calls, joins, loops -/
abbrev OV : Type := (Nat → Int32) × (Nat → Nat → Int32)
def us (o : OV) (k : Nat) (v : Int32) : OV := (upd o.1 k v, o.2)
def ub (o : OV) (k : Nat) (f : Nat → Int32) : OV := (o.1, fun j => if j = k then f else o.2 j)
def ua (o : OV) (k : Nat) (i : Nat) (v : Int32) : OV := (o.1, fun j => if j = k then upd (o.2 k) i v else o.2 j)
/-- the links to private members of nest mates -/
def nwL : List Cond := [.methodLinkNest "UmbrellaVote" 25 ⟨"UmbrellaVote$Pad", "<init>", "()V"⟩ "UmbrellaVote", .methodLinkNest "UmbrellaVote" 41 ⟨"UmbrellaVote$Resting", "<init>", "()V"⟩ "UmbrellaVote", .methodLinkNest "UmbrellaVote$City" 61 ⟨"UmbrellaVote", "within", "(III)Z"⟩ "UmbrellaVote", .methodLinkNest "UmbrellaVote$City" 65 ⟨"UmbrellaVote", "hasBit", "(II)Z"⟩ "UmbrellaVote", .methodLinkNest "UmbrellaVote$City" 93 ⟨"UmbrellaVote", "withBit", "(IIZ)I"⟩ "UmbrellaVote", .methodLinkNest "UmbrellaVote$History" 85 ⟨"UmbrellaVote", "withBit", "(IIZ)I"⟩ "UmbrellaVote", .methodLinkNest "UmbrellaVote$History" 89 ⟨"UmbrellaVote", "hasBit", "(II)Z"⟩ "UmbrellaVote", .methodLinkNest "UmbrellaVote$History" 96 ⟨"UmbrellaVote", "within", "(III)Z"⟩ "UmbrellaVote", .methodLinkNest "UmbrellaVote$Pad" 19 ⟨"UmbrellaVote", "within", "(III)Z"⟩ "UmbrellaVote", .methodLinkNest "UmbrellaVote$Resting" 61 ⟨"UmbrellaVote", "hasBit", "(II)Z"⟩ "UmbrellaVote"]
def nwk (U : State) : Prop := (∀ w ∈ nwL, va_Nw w U) ∧ va_AO RX0 U
theorem nwL_tabs : ∀ w ∈ nwL, w.onTables = true := by decide +kernel
theorem nwk_same {u U : State} (h : u.vm = U.vm) (hN : nwk u) : nwk U := ⟨fun w hw => va_Nw.same (nwL_tabs w hw) h (hN.1 w hw), hN.2.moved (by rw [h]; exact Vm.Alike.refl _)⟩
theorem nwk_warm {s U : State} (hW : s.WarmedH U.vm) (hN : nwk s) : nwk U := by
  refine ⟨?_, hN.2.moved hW.alike⟩
  intro w hw
  have h := hN.1 w hw
  simp only [nwL, List.mem_cons, List.not_mem_nil, or_false] at hw
  rcases hw with rfl | rfl | rfl | rfl | rfl | rfl | rfl | rfl | rfl | rfl <;> exact va_Nw.warmM hW h
/-- starts: a method that only reads, and one that writes -/
def pR (D : va_G) (tys : List (ClassId × FieldType)) (ws : va_W) (av : List Value) : Array Value → State → Prop := va_Pc av (fun U => va_P D vwCl ws U.heap ∧ va_K D vwCl tys U ∧ nwk U)
theorem pR_blind {D : va_G} {tys : List (ClassId × FieldType)} {ws : va_W} {av : List Value} : FrameBlind (pR D tys ws av) := fun a U g mk q => ⟨q.1, q.2.1, va_K.moved (u := U) (U := U.calling g mk a) (Vm.Alike.refl U.vm) q.2.2.1, nwk_same (u := U) (U := U.calling g mk a) rfl q.2.2.2⟩
theorem pR_at {D : va_G} {tys : List (ClassId × FieldType)} {ws : va_W} {av : List Value} {s : State} {H : Heap} (hP : va_P D vwCl ws H) (hK : va_K D vwCl tys s) (hN : nwk s) : ∀ U : State, U.heap = H → s.WarmedH U.vm → pR D tys ws av av.toArray U := fun U hU hW => ⟨rfl, by rw [hU]; exact hP, va_K.moved hW.alike hK, nwk_warm hW hN⟩
def pW (D : va_G) (tys : List (ClassId × FieldType)) (ws : va_W) (sz : Nat) (av : List Value) : Array Value → State → Prop := va_Pc av (fun U => U.heap.size = sz ∧ va_P D vwCl ws U.heap ∧ va_K D vwCl tys U ∧ nwk U ∧ va_D (fun _ => True) ws)
theorem pW_blind {D : va_G} {tys : List (ClassId × FieldType)} {ws : va_W} {sz : Nat} {av : List Value} : FrameBlind (pW D tys ws sz av) := fun a U g mk q => ⟨q.1, q.2.1, q.2.2.1, va_K.moved (u := U) (U := U.calling g mk a) (Vm.Alike.refl U.vm) q.2.2.2.1, nwk_same (u := U) (U := U.calling g mk a) rfl q.2.2.2.2.1, q.2.2.2.2.2⟩
theorem pW_at {D : va_G} {tys : List (ClassId × FieldType)} {ws : va_W} {av : List Value} {s : State} {H : Heap} {A : Nat → Prop} (hP : va_P D vwCl ws H) (hD : va_D A ws) (hK : va_K D vwCl tys s) (hN : nwk s) : ∀ U : State, U.heap = H → s.WarmedH U.vm → pW D tys ws H.size av av.toArray U := fun U hU hW => ⟨rfl, by rw [hU], by rw [hU]; exact hP, va_K.moved hW.alike hK, nwk_warm hW hN, hD.weaken (fun _ _ _ _ => trivial)⟩
/-- the end of a method that writes: its world is wo of what it made -/
def qW {S : Type} (D : va_G) (wo : S → va_W) (A : Nat → Prop) : S → State → Prop := fun u t => va_P D vwCl (wo u) t.heap ∧ va_D A (wo u)
theorem fm_of_map {α β : Type} {f : α → Option β} : ∀ {l : List α} {r : List β}, l.map f = r.map some → l.filterMap f = r
  | [], [], _ => rfl
  | [], _ :: _, h => by simp at h
  | _ :: _, [], h => by simp at h
  | a :: l, b :: r, h => by
    simp only [List.map_cons, List.cons.injEq] at h
    rw [List.filterMap_cons, h.1, fm_of_map h.2]
section UV
variable {p : Program} {l : Launch} {e : Env} {R : Room} {s : State} {m : MethodId} {args : Array Value} {below : List Frame} {meth : Method} {c : Code} {H : Heap} {locs : List Loc} {cells slots : Nat} {Q : State → Prop}
variable {y : MethodName} {bytes cc : ByteArray} {maxL nL n index pc : Nat} {ret : Option FieldType} {ws : List Cond} {rm : Room} {Ts : List Cond} {own host C : String} {b : Addr} {As rest st0 : List Value} {ls : Array Slot} {D : va_G} {tys : List (ClassId × FieldType)} {wc : va_W}
theorem rcVi {v : Int32} (S : CallFix p m c cc nL s args Ts own) (hM : Met l y ws rm (pR D tys wc (.ref b :: As)) (vp_Si (fun r => r = v)) 0 0 (fun _ => False)) (cw : CallW R s args own C index y bytes maxL ret ws rm 0 0 n) (hr : ∃ cellB : Cell, H[b]? = some cellB ∧ cellB.vm.isStatics = false ∧ s.vm.findClass C = some cellB.cls) (hP : va_P D vwCl wc H) (hK : va_K D vwCl tys s) (hN : nwk s) (hst : st0 = As.reverse ++ .ref b :: rest) (hn : As.length = n) (hsz : ls.size = nL) (hW : (rest.map fun v => v.category).sum ≤ 8) (hdg : decode cc pc = .ok (.invokevirtual index, 3)) (hf : cells ≤ R.cells ∧ slots ≤ R.slots)
    (kk : W p l e R s m args below meth c H locs cells slots Q (F0 m (pc + 3) ls (.int v :: rest))) : W p l e R s m args below meth c H locs cells slots Q (F0 m pc ls st0) :=
  vp_callSi (va_runV (As := As) (rest := rest) (b := b) (g := F0 m pc ls st0) S hM cw ⟨pR_blind, hr, pR_at hP hK hN⟩ rfl hn hsz hst (lv_room (m := m) (pc := pc) (ls := ls) (rest := st0) hW) hdg hf).run (fun _ h => h ▸ kk)
theorem rcVl {v : Int64} (S : CallFix p m c cc nL s args Ts own) (hM : Met l y ws rm (pR D tys wc (.ref b :: As)) (vp_Sl (fun r => r = v)) 0 0 (fun _ => False)) (cw : CallW R s args own C index y bytes maxL ret ws rm 0 0 n) (hr : ∃ cellB : Cell, H[b]? = some cellB ∧ cellB.vm.isStatics = false ∧ s.vm.findClass C = some cellB.cls) (hP : va_P D vwCl wc H) (hK : va_K D vwCl tys s) (hN : nwk s) (hst : st0 = As.reverse ++ .ref b :: rest) (hn : As.length = n) (hsz : ls.size = nL) (hW : (rest.map fun v => v.category).sum ≤ 8) (hdg : decode cc pc = .ok (.invokevirtual index, 3)) (hf : cells ≤ R.cells ∧ slots ≤ R.slots)
    (kk : W p l e R s m args below meth c H locs cells slots Q (F0 m (pc + 3) ls (.long v :: rest))) : W p l e R s m args below meth c H locs cells slots Q (F0 m pc ls st0) :=
  vp_callSl (va_runV (As := As) (rest := rest) (b := b) (g := F0 m pc ls st0) S hM cw ⟨pR_blind, hr, pR_at hP hK hN⟩ rfl hn hsz hst (lv_room (m := m) (pc := pc) (ls := ls) (rest := st0) hW) hdg hf).run (fun _ h => h ▸ kk)
theorem rcSi {v : Int32} (S : CallFix p m c cc nL s args Ts own) (hM : Met l y ws rm (pR D tys wc As) (vp_Si (fun r => r = v)) 0 0 (fun _ => False)) (cw : CallB R s args own index y bytes maxL ret ws rm 0 0 n ∧ (Cond.static y).before args s = true) (hP : va_P D vwCl wc H) (hK : va_K D vwCl tys s) (hN : nwk s) (hst : st0 = As.reverse ++ rest) (hn : As.length = n) (hsz : ls.size = nL) (hW : (rest.map fun v => v.category).sum ≤ 8) (hdg : decode cc pc = .ok (.invokestatic index, 3)) (hf : cells ≤ R.cells ∧ slots ≤ R.slots)
    (kk : W p l e R s m args below meth c H locs cells slots Q (F0 m (pc + 3) ls (.int v :: rest))) : W p l e R s m args below meth c H locs cells slots Q (F0 m pc ls st0) :=
  vp_callSi (va_runS (As := As) (rest := rest) (g := F0 m pc ls st0) S hM cw ⟨pR_blind, pR_at hP hK hN⟩ rfl hn hsz hst (lv_room (m := m) (pc := pc) (ls := ls) (rest := st0) hW) hdg hf).run (fun _ h => h ▸ kk)
theorem rcSl {v : Int64} (S : CallFix p m c cc nL s args Ts own) (hM : Met l y ws rm (pR D tys wc As) (vp_Sl (fun r => r = v)) 0 0 (fun _ => False)) (cw : CallB R s args own index y bytes maxL ret ws rm 0 0 n ∧ (Cond.static y).before args s = true) (hP : va_P D vwCl wc H) (hK : va_K D vwCl tys s) (hN : nwk s) (hst : st0 = As.reverse ++ rest) (hn : As.length = n) (hsz : ls.size = nL) (hW : (rest.map fun v => v.category).sum ≤ 8) (hdg : decode cc pc = .ok (.invokestatic index, 3)) (hf : cells ≤ R.cells ∧ slots ≤ R.slots)
    (kk : W p l e R s m args below meth c H locs cells slots Q (F0 m (pc + 3) ls (.long v :: rest))) : W p l e R s m args below meth c H locs cells slots Q (F0 m pc ls st0) :=
  vp_callSl (va_runS (As := As) (rest := rest) (g := F0 m pc ls st0) S hM cw ⟨pR_blind, pR_at hP hK hN⟩ rfl hn hsz hst (lv_room (m := m) (pc := pc) (ls := ls) (rest := st0) hW) hdg hf).run (fun _ h => h ▸ kk)
theorem rcNi {v : Int32} (S : CallFix p m c cc nL s args Ts own) (hM : Met l y ws rm (pR D tys wc As) (vp_Si (fun r => r = v)) 0 0 (fun _ => False)) (cw : va_CN R s args own index y host bytes maxL ret ws rm 0 0 n) (hs : (Cond.static y).before args s = true) (hP : va_P D vwCl wc H) (hK : va_K D vwCl tys s) (hN : nwk s) (hst : st0 = As.reverse ++ rest) (hn : As.length = n) (hsz : ls.size = nL) (hW : (rest.map fun v => v.category).sum ≤ 8) (hdg : decode cc pc = .ok (.invokestatic index, 3)) (hf : cells ≤ R.cells ∧ slots ≤ R.slots)
    (kk : W p l e R s m args below meth c H locs cells slots Q (F0 m (pc + 3) ls (.int v :: rest))) : W p l e R s m args below meth c H locs cells slots Q (F0 m pc ls st0) :=
  vp_callSi (va_runSN (As := As) (rest := rest) (g := F0 m pc ls st0) S hM ⟨cw, hs, trivial⟩ ⟨pR_blind, pR_at hP hK hN⟩ rfl hn hsz hst (lv_room (m := m) (pc := pc) (ls := ls) (rest := st0) hW) hdg hf).run (fun _ h => h ▸ kk)
/-- calls of methods that write: what came back beside the rest, in the order that is given -/
theorem wc_back {A : Nat → Prop} {ws9 wr w1 ws' : va_W} {H1 : Heap} {H0 : Heap} (hP : va_P D vwCl ws9 H) (hD : va_D A ws9) (isC isR isP : List Nat) (hC : isC.map (fun i => ws9[i]?) = wc.map some) (hR : isR.map (fun i => ws9[i]?) = wr.map some) (hnR : va_nd isR = true) (hdis : ∀ i ∈ isR, i ∉ isC) (hk : ∀ q : Nat, q < H.size → ¬ va_A wc H.size q → H1[q]? = H[q]?) (hF : ∀ q, va_A wc H.size q → A q) (hP1 : va_P D vwCl w1 H1) (hD1 : va_D (va_A wc H.size) w1) (hp : isP.map (fun i => (wr ++ w1)[i]?) = ws'.map some) (hnP : va_nd isP = true) : va_P D vwCl ws' H1 ∧ va_D A ws' := by
  obtain ⟨h1, h2⟩ := va_join (wr := wr) (w1 := w1) hP hD isC isR hC hR hnR hdis hk hF hP1 hD1
  exact ⟨h1.sub isP (fm_of_map hp), h2.sub isP hnP hp⟩
theorem wcVi {σ : Type} {wo : σ → va_W} {v : Int32} {x : σ} {A : Nat → Prop} {ws9 wr ws' : va_W} {H0 : Heap} {mc ms : Nat} (S : CallFix p m c cc nL s args Ts own) (hM : Met l y ws rm (pW D tys wc H.size (.ref b :: As)) (va_Qi (fun r u => r = v ∧ u = x) (qW D wo (va_A wc H.size)) (va_A wc H.size)) mc ms (va_A wc H.size)) (cw : CallW R s args own C index y bytes maxL ret ws rm mc ms n) (hr : ∃ cellB : Cell, H[b]? = some cellB ∧ cellB.vm.isStatics = false ∧ s.vm.findClass C = some cellB.cls) (hP : va_P D vwCl ws9 H) (hD : va_D A ws9) (hS : va_S A H0 H locs) (hA : ∀ q, H0.size ≤ q → A q) (hK : va_K D vwCl tys s) (hN : nwk s)
    (isC isR isP : List Nat) (hC : isC.map (fun i => ws9[i]?) = wc.map some) (hnC : va_nd isC = true) (hR : isR.map (fun i => ws9[i]?) = wr.map some) (hnR : va_nd isR = true) (hdis : ∀ i ∈ isR, i ∉ isC) (hp : isP.map (fun i => (wr ++ wo x)[i]?) = ws'.map some) (hnP : va_nd isP = true)
    (hst : st0 = As.reverse ++ .ref b :: rest) (hn : As.length = n) (hsz : ls.size = nL) (hW : (rest.map fun v => v.category).sum ≤ 8) (hdg : decode cc pc = .ok (.invokevirtual index, 3)) (hf : cells + mc ≤ R.cells ∧ slots + ms ≤ R.slots)
    (kk : ∀ (H1 : Heap) (locs1 : List Loc), va_P D vwCl ws' H1 → va_D A ws' → va_S A H0 H1 locs1 → W p l e R s m args below meth c H1 locs1 (cells + mc) (slots + ms) Q (F0 m (pc + 3) ls (.int v :: rest))) : W p l e R s m args below meth c H locs cells slots Q (F0 m pc ls st0) := by
  have hFc := va_free (wc := wc) hD hS hA isC hC
  refine va_calli (va_runV (As := As) (rest := rest) (b := b) (g := F0 m pc ls st0) S hM cw ⟨pW_blind, hr, pW_at (hP.sub isC (fm_of_map hC)) (hD.sub isC hnC hC) hK hN⟩ rfl hn hsz hst (lv_room (m := m) (pc := pc) (ls := ls) (rest := st0) hW) hdg hf) hS (fun q _ h => hFc q h) hFc (fun r u t H1 locs1 ht hvm hw hB hz1 hk1 hS1 => ?_)
  obtain ⟨rfl, rfl⟩ := hw
  obtain ⟨hP1, hD1⟩ := hB
  rw [ht] at hP1
  obtain ⟨h1, h2⟩ := wc_back hP hD isC isR isP hC hR hnR hdis hk1 hFc hP1 hD1 hp hnP (H0 := H0)
  exact kk H1 locs1 h1 h2 hS1
theorem wcVl {σ : Type} {wo : σ → va_W} {v : Int64} {x : σ} {A : Nat → Prop} {ws9 wr ws' : va_W} {H0 : Heap} {mc ms : Nat} (S : CallFix p m c cc nL s args Ts own) (hM : Met l y ws rm (pW D tys wc H.size (.ref b :: As)) (va_Ql (fun r u => r = v ∧ u = x) (qW D wo (va_A wc H.size)) (va_A wc H.size)) mc ms (va_A wc H.size)) (cw : CallW R s args own C index y bytes maxL ret ws rm mc ms n) (hr : ∃ cellB : Cell, H[b]? = some cellB ∧ cellB.vm.isStatics = false ∧ s.vm.findClass C = some cellB.cls) (hP : va_P D vwCl ws9 H) (hD : va_D A ws9) (hS : va_S A H0 H locs) (hA : ∀ q, H0.size ≤ q → A q) (hK : va_K D vwCl tys s) (hN : nwk s)
    (isC isR isP : List Nat) (hC : isC.map (fun i => ws9[i]?) = wc.map some) (hnC : va_nd isC = true) (hR : isR.map (fun i => ws9[i]?) = wr.map some) (hnR : va_nd isR = true) (hdis : ∀ i ∈ isR, i ∉ isC) (hp : isP.map (fun i => (wr ++ wo x)[i]?) = ws'.map some) (hnP : va_nd isP = true)
    (hst : st0 = As.reverse ++ .ref b :: rest) (hn : As.length = n) (hsz : ls.size = nL) (hW : (rest.map fun v => v.category).sum ≤ 8) (hdg : decode cc pc = .ok (.invokevirtual index, 3)) (hf : cells + mc ≤ R.cells ∧ slots + ms ≤ R.slots)
    (kk : ∀ (H1 : Heap) (locs1 : List Loc), va_P D vwCl ws' H1 → va_D A ws' → va_S A H0 H1 locs1 → W p l e R s m args below meth c H1 locs1 (cells + mc) (slots + ms) Q (F0 m (pc + 3) ls (.long v :: rest))) : W p l e R s m args below meth c H locs cells slots Q (F0 m pc ls st0) := by
  have hFc := va_free (wc := wc) hD hS hA isC hC
  refine va_calll (va_runV (As := As) (rest := rest) (b := b) (g := F0 m pc ls st0) S hM cw ⟨pW_blind, hr, pW_at (hP.sub isC (fm_of_map hC)) (hD.sub isC hnC hC) hK hN⟩ rfl hn hsz hst (lv_room (m := m) (pc := pc) (ls := ls) (rest := st0) hW) hdg hf) hS (fun q _ h => hFc q h) hFc (fun r u t H1 locs1 ht hvm hw hB hz1 hk1 hS1 => ?_)
  obtain ⟨rfl, rfl⟩ := hw
  obtain ⟨hP1, hD1⟩ := hB
  rw [ht] at hP1
  obtain ⟨h1, h2⟩ := wc_back hP hD isC isR isP hC hR hnR hdis hk1 hFc hP1 hD1 hp hnP (H0 := H0)
  exact kk H1 locs1 h1 h2 hS1
theorem wcVv {σ : Type} {wo : σ → va_W} {x : σ} {A : Nat → Prop} {ws9 wr ws' : va_W} {H0 : Heap} {mc ms : Nat} (S : CallFix p m c cc nL s args Ts own) (hM : Met l y ws rm (pW D tys wc H.size (.ref b :: As)) (va_Qv (fun u => u = x) (qW D wo (va_A wc H.size)) (va_A wc H.size)) mc ms (va_A wc H.size)) (cw : CallW R s args own C index y bytes maxL ret ws rm mc ms n) (hr : ∃ cellB : Cell, H[b]? = some cellB ∧ cellB.vm.isStatics = false ∧ s.vm.findClass C = some cellB.cls) (hP : va_P D vwCl ws9 H) (hD : va_D A ws9) (hS : va_S A H0 H locs) (hA : ∀ q, H0.size ≤ q → A q) (hK : va_K D vwCl tys s) (hN : nwk s)
    (isC isR isP : List Nat) (hC : isC.map (fun i => ws9[i]?) = wc.map some) (hnC : va_nd isC = true) (hR : isR.map (fun i => ws9[i]?) = wr.map some) (hnR : va_nd isR = true) (hdis : ∀ i ∈ isR, i ∉ isC) (hp : isP.map (fun i => (wr ++ wo x)[i]?) = ws'.map some) (hnP : va_nd isP = true)
    (hst : st0 = As.reverse ++ .ref b :: rest) (hn : As.length = n) (hsz : ls.size = nL) (hW : (rest.map fun v => v.category).sum ≤ 8) (hdg : decode cc pc = .ok (.invokevirtual index, 3)) (hf : cells + mc ≤ R.cells ∧ slots + ms ≤ R.slots)
    (kk : ∀ (H1 : Heap) (locs1 : List Loc), va_P D vwCl ws' H1 → va_D A ws' → va_S A H0 H1 locs1 → W p l e R s m args below meth c H1 locs1 (cells + mc) (slots + ms) Q (F0 m (pc + 3) ls rest)) : W p l e R s m args below meth c H locs cells slots Q (F0 m pc ls st0) := by
  have hFc := va_free (wc := wc) hD hS hA isC hC
  refine va_callv (va_runV (As := As) (rest := rest) (b := b) (g := F0 m pc ls st0) S hM cw ⟨pW_blind, hr, pW_at (hP.sub isC (fm_of_map hC)) (hD.sub isC hnC hC) hK hN⟩ rfl hn hsz hst (lv_room (m := m) (pc := pc) (ls := ls) (rest := st0) hW) hdg hf) hS (fun q _ h => hFc q h) hFc (fun u t H1 locs1 ht hvm hw hB hz1 hk1 hS1 => ?_)
  subst hw
  obtain ⟨hP1, hD1⟩ := hB
  rw [ht] at hP1
  obtain ⟨h1, h2⟩ := wc_back hP hD isC isR isP hC hR hnR hdis hk1 hFc hP1 hD1 hp hnP (H0 := H0)
  exact kk H1 locs1 h1 h2 hS1
theorem wcSv {σ : Type} {wo : σ → va_W} {x : σ} {A : Nat → Prop} {ws9 wr ws' : va_W} {H0 : Heap} {mc ms : Nat} (S : CallFix p m c cc nL s args Ts own) (hM : Met l y ws rm (pW D tys wc H.size As) (va_Qv (fun u => u = x) (qW D wo (va_A wc H.size)) (va_A wc H.size)) mc ms (va_A wc H.size)) (cw : CallB R s args own index y bytes maxL ret ws rm mc ms n ∧ (Cond.static y).before args s = true) (hP : va_P D vwCl ws9 H) (hD : va_D A ws9) (hS : va_S A H0 H locs) (hA : ∀ q, H0.size ≤ q → A q) (hK : va_K D vwCl tys s) (hN : nwk s)
    (isC isR isP : List Nat) (hC : isC.map (fun i => ws9[i]?) = wc.map some) (hnC : va_nd isC = true) (hR : isR.map (fun i => ws9[i]?) = wr.map some) (hnR : va_nd isR = true) (hdis : ∀ i ∈ isR, i ∉ isC) (hp : isP.map (fun i => (wr ++ wo x)[i]?) = ws'.map some) (hnP : va_nd isP = true)
    (hst : st0 = As.reverse ++ rest) (hn : As.length = n) (hsz : ls.size = nL) (hW : (rest.map fun v => v.category).sum ≤ 8) (hdg : decode cc pc = .ok (.invokestatic index, 3)) (hf : cells + mc ≤ R.cells ∧ slots + ms ≤ R.slots)
    (kk : ∀ (H1 : Heap) (locs1 : List Loc), va_P D vwCl ws' H1 → va_D A ws' → va_S A H0 H1 locs1 → W p l e R s m args below meth c H1 locs1 (cells + mc) (slots + ms) Q (F0 m (pc + 3) ls rest)) : W p l e R s m args below meth c H locs cells slots Q (F0 m pc ls st0) := by
  have hFc := va_free (wc := wc) hD hS hA isC hC
  refine va_callv (va_runS (As := As) (rest := rest) (g := F0 m pc ls st0) S hM cw ⟨pW_blind, pW_at (hP.sub isC (fm_of_map hC)) (hD.sub isC hnC hC) hK hN⟩ rfl hn hsz hst (lv_room (m := m) (pc := pc) (ls := ls) (rest := st0) hW) hdg hf) hS (fun q _ h => hFc q h) hFc (fun u t H1 locs1 ht hvm hw hB hz1 hk1 hS1 => ?_)
  subst hw
  obtain ⟨hP1, hD1⟩ := hB
  rw [ht] at hP1
  obtain ⟨h1, h2⟩ := wc_back hP hD isC isR isP hC hR hnR hdis hk1 hFc hP1 hD1 hp hnP (H0 := H0)
  exact kk H1 locs1 h1 h2 hS1
/-- two branches that come together with one value more -/
theorem W_itei {P : Prop} [Decidable P] {a b : Int32} {J : Nat} {ls9 : Array Slot} {rest9 : List Value} {g : JFrame} (kb : (P → W p l e R s m args below meth c H locs cells slots Q (F0 m J ls9 (.int a :: rest9))) → (¬ P → W p l e R s m args below meth c H locs cells slots Q (F0 m J ls9 (.int b :: rest9))) → W p l e R s m args below meth c H locs cells slots Q g)
    (kJ : W p l e R s m args below meth c H locs cells slots Q (F0 m J ls9 (.int (if P then a else b) :: rest9))) : W p l e R s m args below meth c H locs cells slots Q g :=
  kb (fun h => by rw [if_pos h] at kJ; exact kJ) (fun h => by rw [if_neg h] at kJ; exact kJ)
theorem W_itel {P : Prop} [Decidable P] {a b : Int64} {J : Nat} {ls9 : Array Slot} {rest9 : List Value} {g : JFrame} (kb : (P → W p l e R s m args below meth c H locs cells slots Q (F0 m J ls9 (.long a :: rest9))) → (¬ P → W p l e R s m args below meth c H locs cells slots Q (F0 m J ls9 (.long b :: rest9))) → W p l e R s m args below meth c H locs cells slots Q g)
    (kJ : W p l e R s m args below meth c H locs cells slots Q (F0 m J ls9 (.long (if P then a else b) :: rest9))) : W p l e R s m args below meth c H locs cells slots Q g :=
  kb (fun h => by rw [if_pos h] at kJ; exact kJ) (fun h => by rw [if_neg h] at kJ; exact kJ)
/-- two branches that come together with other locals -/
theorem W_itL {P : Prop} [Decidable P] {A9 B9 : Array Slot → Prop} {J : Nat} {rest9 : List Value} {g : JFrame} (kb : (P → ∀ ls9, A9 ls9 → W p l e R s m args below meth c H locs cells slots Q (F0 m J ls9 rest9)) → (¬ P → ∀ ls9, B9 ls9 → W p l e R s m args below meth c H locs cells slots Q (F0 m J ls9 rest9)) → W p l e R s m args below meth c H locs cells slots Q g)
    (kJ : ∀ ls9, (if P then A9 ls9 else B9 ls9) → W p l e R s m args below meth c H locs cells slots Q (F0 m J ls9 rest9)) : W p l e R s m args below meth c H locs cells slots Q g :=
  kb (fun h ls9 q => kJ ls9 (by rw [if_pos h]; exact q)) (fun h ls9 q => kJ ls9 (by rw [if_neg h]; exact q))
/-- a loop that only reads -/
theorem W_lpR (B : Nat) (I : Nat → Array Slot → Prop) {pc : Nat} (h0 : I 0 ls)
    (hs : ∀ (k : Nat) (ls9 : Array Slot), k < B → I k ls9 → (∀ ls8 : Array Slot, I (k + 1) ls8 → W p l e R s m args below meth c H locs cells slots Q (F0 m pc ls8 rest)) → W p l e R s m args below meth c H locs cells slots Q (F0 m pc ls9 rest))
    (hx : ∀ ls9 : Array Slot, I B ls9 → W p l e R s m args below meth c H locs cells slots Q (F0 m pc ls9 rest)) : W p l e R s m args below meth c H locs cells slots Q (F0 m pc ls rest) := by
  have key : ∀ (r k : Nat) (ls9 : Array Slot), k + r = B → I k ls9 → W p l e R s m args below meth c H locs cells slots Q (F0 m pc ls9 rest) := by
    intro r
    induction r with
    | zero => intro k ls9 h hI; rw [Nat.add_zero] at h; subst h; exact hx ls9 hI
    | succ r ih => intro k ls9 h hI; exact hs k ls9 (by omega) hI (fun ls8 hI8 => ih (k + 1) ls8 (by omega) hI8)
  exact key B 0 ls (Nat.zero_add B) h0
/-- a loop that writes -/
theorem W_lpW (B : Nat) (I : Nat → Heap → List Loc → Array Slot → Prop) {pc : Nat} (h0 : I 0 H locs ls)
    (hs : ∀ (k : Nat) (H9 : Heap) (locs9 : List Loc) (ls9 : Array Slot), k < B → I k H9 locs9 ls9 → (∀ (H8 : Heap) (locs8 : List Loc) (ls8 : Array Slot), I (k + 1) H8 locs8 ls8 → W p l e R s m args below meth c H8 locs8 cells slots Q (F0 m pc ls8 rest)) → W p l e R s m args below meth c H9 locs9 cells slots Q (F0 m pc ls9 rest))
    (hx : ∀ (H9 : Heap) (locs9 : List Loc) (ls9 : Array Slot), I B H9 locs9 ls9 → W p l e R s m args below meth c H9 locs9 cells slots Q (F0 m pc ls9 rest)) : W p l e R s m args below meth c H locs cells slots Q (F0 m pc ls rest) := by
  have key : ∀ (r k : Nat) (H9 : Heap) (locs9 : List Loc) (ls9 : Array Slot), k + r = B → I k H9 locs9 ls9 → W p l e R s m args below meth c H9 locs9 cells slots Q (F0 m pc ls9 rest) := by
    intro r
    induction r with
    | zero => intro k H9 locs9 ls9 h hI; rw [Nat.add_zero] at h; subst h; exact hx H9 locs9 ls9 hI
    | succ r ih => intro k H9 locs9 ls9 h hI; exact hs k H9 locs9 ls9 (by omega) hI (fun H8 locs8 ls8 hI8 => ih (k + 1) H8 locs8 ls8 (by omega) hI8)
  exact key B 0 H locs ls (Nat.zero_add B) h0
/-- a loop with ways out: r rounds are left, k are done -/
theorem W_ltR {σ : Type} (B : Nat) (I : Nat → Nat → σ → Array Slot → Prop) {pc : Nat} (σ0 : σ) (h0 : I B 0 σ0 ls)
    (hs : ∀ (r k : Nat) (x : σ) (ls9 : Array Slot), k + (r + 1) = B → I (r + 1) k x ls9 → (∀ (x8 : σ) (ls8 : Array Slot), I r (k + 1) x8 ls8 → W p l e R s m args below meth c H locs cells slots Q (F0 m pc ls8 rest)) → W p l e R s m args below meth c H locs cells slots Q (F0 m pc ls9 rest))
    (hx : ∀ (k : Nat) (x : σ) (ls9 : Array Slot), k = B → I 0 k x ls9 → W p l e R s m args below meth c H locs cells slots Q (F0 m pc ls9 rest)) : W p l e R s m args below meth c H locs cells slots Q (F0 m pc ls rest) := by
  have key : ∀ (r k : Nat) (x : σ) (ls9 : Array Slot), k + r = B → I r k x ls9 → W p l e R s m args below meth c H locs cells slots Q (F0 m pc ls9 rest) := by
    intro r
    induction r with
    | zero => intro k x ls9 h hI; exact hx k x ls9 h hI
    | succ r ih => intro k x ls9 h hI; exact hs r k x ls9 h hI (fun x8 ls8 hI8 => ih (k + 1) x8 ls8 (by omega) hI8)
  exact key B 0 σ0 ls (Nat.zero_add B) h0
theorem W_ltW {σ : Type} (B : Nat) (I : Nat → Nat → σ → Heap → List Loc → Array Slot → Prop) {pc : Nat} (σ0 : σ) (h0 : I B 0 σ0 H locs ls)
    (hs : ∀ (r k : Nat) (x : σ) (H9 : Heap) (locs9 : List Loc) (ls9 : Array Slot), k + (r + 1) = B → I (r + 1) k x H9 locs9 ls9 → (∀ (x8 : σ) (H8 : Heap) (locs8 : List Loc) (ls8 : Array Slot), I r (k + 1) x8 H8 locs8 ls8 → W p l e R s m args below meth c H8 locs8 cells slots Q (F0 m pc ls8 rest)) → W p l e R s m args below meth c H9 locs9 cells slots Q (F0 m pc ls9 rest))
    (hx : ∀ (k : Nat) (x : σ) (H9 : Heap) (locs9 : List Loc) (ls9 : Array Slot), k = B → I 0 k x H9 locs9 ls9 → W p l e R s m args below meth c H9 locs9 cells slots Q (F0 m pc ls9 rest)) : W p l e R s m args below meth c H locs cells slots Q (F0 m pc ls rest) := by
  have key : ∀ (r k : Nat) (x : σ) (H9 : Heap) (locs9 : List Loc) (ls9 : Array Slot), k + r = B → I r k x H9 locs9 ls9 → W p l e R s m args below meth c H9 locs9 cells slots Q (F0 m pc ls9 rest) := by
    intro r
    induction r with
    | zero => intro k x H9 locs9 ls9 h hI; exact hx k x H9 locs9 ls9 h hI
    | succ r ih => intro k x H9 locs9 ls9 h hI; exact hs r k x H9 locs9 ls9 h hI (fun x8 H8 locs8 ls8 hI8 => ih (k + 1) x8 H8 locs8 ls8 (by omega) hI8)
  exact key B 0 σ0 H locs ls (Nat.zero_add B) h0
end UV
theorem nar_z {v : Int32} (h : v = 0 ∨ v = 1) : narrow .boolean (.int v) = .int v := by rcases h with rfl | rfl <;> rfl
theorem if_z {P : Prop} [Decidable P] {a b : Int32} (ha : a = 0 ∨ a = 1) (hb : b = 0 ∨ b = 1) : (if P then a else b) = 0 ∨ (if P then a else b) = 1 := by
  by_cases h : P
  · rw [if_pos h]; exact ha
  · rw [if_neg h]; exact hb
/-- a counter that goes down from b, -1 behind 0 -/
def dn (b k : Nat) : Int32 := if k ≤ b then nI (b - k) else -1
theorem dn_in {b k : Nat} (h : k < b + 1) : dn b k = nI (b - k) := if_pos (by omega)
theorem dn_out (b : Nat) : dn b (b + 1) = -1 := if_neg (by omega)
theorem dn_succ {b k : Nat} (h : k < b + 1) : dn b (k + 1) = dn b k + (-1) := by
  rw [dn_in h]
  by_cases q : k = b
  · subst q; rw [dn_out, Nat.sub_self]; rfl
  · rw [dn_in (by omega : k + 1 < b + 1), show b - k = (b - (k + 1)) + 1 by omega, pk_m1]
theorem dn_nneg {b k : Nat} (h : k < b + 1) (hb : b < 1000) : ¬ dn b k < 0 := by
  rw [dn_in h]; exact nI_pos (by omega)
end
section
/-! WORLDS: the cells of the objects, by what they hold -/
abbrev tyv (cI cZ cC : ClassId) : List (ClassId × FieldType) := [(cI, .int), (cZ, .boolean), (cC, .object RX0)]
abbrev wX0 (cI : ClassId) (h : Nat) (a : Nat → Nat) (o : OV) : va_W := [(h, .inr (0, [.int (o.1 0), .int (o.1 1), .int (o.1 2), .int (o.1 3), .int (o.1 4), .int (o.1 5), .int (o.1 6), .ref (a 7), .ref (a 8), .ref (a 9), .ref (a 10), .ref (a 11)])), (a 7, .inl (cI, 6, .inl (o.2 7))), (a 8, .inl (cI, 6, .inl (o.2 8))), (a 9, .inl (cI, 10, .inl (o.2 9))), (a 10, .inl (cI, 6, .inl (o.2 10))), (a 11, .inl (cI, 6, .inl (o.2 11)))]
abbrev wX1 (cI : ClassId) (hc h : Nat) (a : Nat → Nat) (o : OV) : va_W := [(h, .inr (1, [.ref hc, .ref (a 1), .int (o.1 2), .int (o.1 3), .int (o.1 4)])), (a 1, .inl (cI, 9, .inl (o.2 1)))]
abbrev wX2 (cI : ClassId) (h : Nat) (a : Nat → Nat) (o : OV) : va_W := [(h, .inr (2, [.ref (a 0), .int (o.1 1)])), (a 0, .inl (cI, 40, .inl (o.2 0)))]
abbrev wX3 (cI : ClassId) (h : Nat) (a : Nat → Nat) (o : OV) : va_W := [(h, .inr (3, [.int (o.1 0), .ref (a 1), .ref (a 2), .ref (a 3), .ref (a 4)])), (a 1, .inl (cI, 10, .inl (o.2 1))), (a 2, .inl (cI, 300, .inl (o.2 2))), (a 3, .inl (cI, 3000, .inl (o.2 3))), (a 4, .inl (cI, 300, .inl (o.2 4)))]
abbrev wX5 (cI cZ : ClassId) (h : Nat) (a : Nat → Nat) (o : OV) : va_W := [(h, .inr (5, [.int (o.1 0), .ref (a 1), .ref (a 2), .ref (a 3), .int (o.1 4), .int (o.1 5), .int (o.1 6), .int (o.1 7), .ref (a 8), .ref (a 9), .ref (a 10), .int (o.1 11), .ref (a 12), .int (o.1 13), .ref (a 14), .int (o.1 15), .int (o.1 16), .int (o.1 17), .int (o.1 18), .ref (a 19), .ref (a 20), .ref (a 21), .int (o.1 22), .int (o.1 23)])), (a 1, .inl (cI, 6, .inl (o.2 1))), (a 2, .inl (cI, 6, .inl (o.2 2))), (a 3, .inl (cI, 6, .inl (o.2 3))), (a 8, .inl (cI, 10, .inl (o.2 8))), (a 9, .inl (cI, 6, .inl (o.2 9))), (a 10, .inl (cI, 6, .inl (o.2 10))), (a 12, .inl (cI, 40, .inl (o.2 12))), (a 14, .inl (cI, 9, .inl (o.2 14))), (a 19, .inl (cI, 6, .inl (o.2 19))), (a 20, .inl (cI, 160, .inl (o.2 20))), (a 21, .inl (cZ, 2, .inl (o.2 21)))]
abbrev wX4 (hq hc hu hi hg hy hw : Nat) : va_W := [(hq, .inr (4, [.ref hc, .ref hu, .ref hi, .ref hg, .ref hy, .ref hw]))]
abbrev wXi (cC : ClassId) (h : Nat) (f : Nat → Option Nat) : va_W := [(h, .inl (cC, 2, .inr (.inr (.inr (.inr f)))))]
abbrev wAr (cI : ClassId) (h n : Nat) (f : Nat → Int32) : va_W := [(h, .inl (cI, n, .inl f))]
theorem ty_cI {D : va_G} {cI cZ cC cA : ClassId} {s : State} (h : va_K D vwCl (tyv cI cZ cC ++ [(cA, .int)]) s) : cA = cI := by
  have h1 := (h.2 0 (cI, .int) rfl).2
  have h2 := (h.2 3 (cA, .int) rfl).2
  exact Option.some.inj (h2.symm.trans h1)
theorem ty_cZ {D : va_G} {cI cZ cC cA : ClassId} {s : State} (h : va_K D vwCl (tyv cI cZ cC ++ [(cA, .boolean)]) s) : cA = cZ := by
  have h1 := (h.2 1 (cZ, .boolean) rfl).2
  have h2 := (h.2 3 (cA, .boolean) rfl).2
  exact Option.some.inj (h2.symm.trans h1)
theorem ty_cC {D : va_G} {cI cZ cC cA : ClassId} {s : State} (h : va_K D vwCl (tyv cI cZ cC ++ [(cA, .object RX0)]) s) : cA = cC := by
  obtain ⟨_, _, _, _, _, h1⟩ := (h.2 2 (cC, .object RX0) rfl).2
  obtain ⟨_, _, _, _, _, h2⟩ := (h.2 3 (cA, .object RX0) rfl).2
  exact Option.some.inj (h2.symm.trans h1)
section UVN
variable {p : Program} {l : Launch} {e : Env} {R : Room} {s : State} {m : MethodId} {args : Array Value} {below : List Frame} {meth : Method} {c : Code} {H : Heap} {locs : List Loc} {cells slots : Nat} {Q : State → Prop}
variable {cc : ByteArray} {pc : Nat} {ls : Array Slot} {rest : List Value} {D : va_G} {A : Nat → Prop} {cI cZ cC : ClassId} {ws : va_W} {H0 : Heap}
theorem uv_newi (hx : p.tables.exec = Jvm.exec) (hb : c.code = cc) (harr : (Cond.arrayClass .int).before args s = true) (hK : va_K D vwCl (tyv cI cZ cC) s) (hP : va_P D vwCl ws H) (hD : va_D A ws) (hS : va_S A H0 H locs) (hA : ∀ q, H0.size ≤ q → A q) {n : Int32} {N : Nat} (hn : ¬ n < 0) (hN : n.toNatClampNeg = N) (hbytes : N * 4 ≤ 536870912) (hcells : cells + 1 ≤ R.cells) (hslots : slots + N ≤ R.slots) (hdg : decode cc pc = .ok (.newarray .int, 2))
    (kk : ∀ (q : Nat) (H1 : Heap), va_P D vwCl (ws ++ [(q, .inl (cI, N, .inl (fun _ => 0)))]) H1 → va_D A (ws ++ [(q, .inl (cI, N, .inl (fun _ => 0)))]) → va_S A H0 H1 locs → W p l e R s m args below meth c H1 locs (cells + 1) (slots + N) Q (F0 m (pc + 2) ls (.ref q :: rest))) : W p l e R s m args below meth c H locs cells slots Q (F0 m pc ls (.int n :: rest)) := by
  refine va_newa (atype := .int) (ty := .int) (a0 := (N, .inl (fun _ => 0))) hx hb harr rfl hK hP hD hS hA (fun _ => rfl) hn hN hbytes hcells hslots hdg (fun q cA H1 hK1 hP1 hD1 hS1 => ?_)
  obtain rfl := ty_cI hK1
  exact kk q H1 hP1 hD1 hS1
theorem uv_newz (hx : p.tables.exec = Jvm.exec) (hb : c.code = cc) (harr : (Cond.arrayClass .boolean).before args s = true) (hK : va_K D vwCl (tyv cI cZ cC) s) (hP : va_P D vwCl ws H) (hD : va_D A ws) (hS : va_S A H0 H locs) (hA : ∀ q, H0.size ≤ q → A q) {n : Int32} {N : Nat} (hn : ¬ n < 0) (hN : n.toNatClampNeg = N) (hbytes : N * 1 ≤ 536870912) (hcells : cells + 1 ≤ R.cells) (hslots : slots + N ≤ R.slots) (hdg : decode cc pc = .ok (.newarray .boolean, 2))
    (kk : ∀ (q : Nat) (H1 : Heap), va_P D vwCl (ws ++ [(q, .inl (cZ, N, .inl (fun _ => 0)))]) H1 → va_D A (ws ++ [(q, .inl (cZ, N, .inl (fun _ => 0)))]) → va_S A H0 H1 locs → W p l e R s m args below meth c H1 locs (cells + 1) (slots + N) Q (F0 m (pc + 2) ls (.ref q :: rest))) : W p l e R s m args below meth c H locs cells slots Q (F0 m pc ls (.int n :: rest)) := by
  refine va_newa (atype := .boolean) (ty := .boolean) (a0 := (N, .inl (fun _ => 0))) hx hb harr rfl hK hP hD hS hA (fun _ => rfl) hn hN hbytes hcells hslots hdg (fun q cA H1 hK1 hP1 hD1 hS1 => ?_)
  obtain rfl := ty_cZ hK1
  exact kk q H1 hP1 hD1 hS1
theorem uv_newq {own : String} {index : Nat} (hx : p.tables.exec = Jvm.exec) (hb : c.code = cc) (hown : s.vm.findClass own = some m.cls) (hcl : (Cond.classLink own index RX0).before args s = true) (hO : va_AO RX0 s) (hK : va_K D vwCl (tyv cI cZ cC) s) (hP : va_P D vwCl ws H) (hD : va_D A ws) (hS : va_S A H0 H locs) (hA : ∀ q, H0.size ≤ q → A q) {n : Int32} {N : Nat} (hn : ¬ n < 0) (hN : n.toNatClampNeg = N) (hbytes : N * 4 ≤ 536870912) (hcells : cells + 1 ≤ R.cells) (hslots : slots + N ≤ R.slots) (hdg : decode cc pc = .ok (.anewarray index, 3))
    (kk : ∀ (q : Nat) (H1 : Heap), va_P D vwCl (ws ++ [(q, .inl (cC, N, .inr (.inr (.inr (.inr (fun _ => none))))))]) H1 → va_D A (ws ++ [(q, .inl (cC, N, .inr (.inr (.inr (.inr (fun _ => none))))))]) → va_S A H0 H1 locs → W p l e R s m args below meth c H1 locs (cells + 1) (slots + N) Q (F0 m (pc + 3) ls (.ref q :: rest))) : W p l e R s m args below meth c H locs cells slots Q (F0 m pc ls (.int n :: rest)) := by
  refine va_newq hx hb hown hcl hO hK hP hD hS hA hn hN hbytes hcells hslots hdg (fun q cA H1 hK1 hP1 hD1 hS1 => ?_)
  obtain rfl := ty_cC hK1
  exact kk q H1 hP1 hD1 hS1
end UVN
end
section
def fX4_within (p0 : Int32) (p1 : Int32) (p2 : Int32) : Int32 :=
  (if p0 < p1 then (0 : Int32) else (if p2 < p0 then (0 : Int32) else 1))
theorem zX4_within (p0 : Int32) (p1 : Int32) (p2 : Int32) : fX4_within p0 p1 p2 = 0 ∨ fX4_within p0 p1 p2 = 1 := by
  unfold fX4_within
  repeat' split
  all_goals first | exact Or.inl rfl | exact Or.inr rfl | exact if_z (Or.inr rfl) (Or.inl rfl) | exact if_z (Or.inl rfl) (Or.inr rfl)

def fX4_isPlace (p0 : Int32) : Int32 :=
  (fX4_within p0 0 9)
theorem zX4_isPlace (p0 : Int32) : fX4_isPlace p0 = 0 ∨ fX4_isPlace p0 = 1 := by
  unfold fX4_isPlace
  repeat' split
  all_goals first | exact Or.inl rfl | exact Or.inr rfl | exact if_z (Or.inr rfl) (Or.inl rfl) | exact if_z (Or.inl rfl) (Or.inr rfl) | exact zX4_within _ _ _

def fX4_hasBit (p0 : Int32) (p1 : Int32) : Int32 :=
  (if ((p0 >>> (p1 &&& 31)) &&& 1) = 1 then (1 : Int32) else 0)
theorem zX4_hasBit (p0 : Int32) (p1 : Int32) : fX4_hasBit p0 p1 = 0 ∨ fX4_hasBit p0 p1 = 1 := by
  unfold fX4_hasBit
  repeat' split
  all_goals first | exact Or.inl rfl | exact Or.inr rfl | exact if_z (Or.inr rfl) (Or.inl rfl) | exact if_z (Or.inl rfl) (Or.inr rfl)

def fX4_withBit (p0 : Int32) (p1 : Int32) (p2 : Int32) : Int32 :=
  (if p2 = 0 then (p0 &&& ((1 <<< (p1 &&& 31)) ^^^ (-1))) else (p0 ||| (1 <<< (p1 &&& 31))))

def fX4_firstPerson_L2 (p0 : Int32) : Nat → Nat → Int32
  | 0, k1 =>
    (-6)
  | r1 + 1, k1 =>
    if (fX4_hasBit p0 (nI k1)) = 0 then
      fX4_firstPerson_L2 p0 r1 (k1 + 1)
    else
      (nI k1)
def fX4_firstPerson (p0 : Int32) : Int32 :=
  fX4_firstPerson_L2 p0 (6) 0

def fX4_commonDivisor_L7  : Nat → Nat → Int32 → Int32 → Int32
  | 0, k1, x3_1, x2_1 =>
    x2_1
  | r1 + 1, k1, x3_1, x2_1 =>
    if x3_1 = 0 then
      x2_1
    else
      fX4_commonDivisor_L7 r1 (k1 + 1) (x2_1 - x2_1 / x3_1 * x3_1) x3_1
def fX4_commonDivisor (p0 : Int32) (p1 : Int32) : Int32 :=
  fX4_commonDivisor_L7 (1000) 0 p1 p0

def fX4_fraction (p0 : Int32) (p1 : Int32) (p2 : Int32) : Int64 :=
  if 1 ≤ (fX4_commonDivisor p0 p1) then
    ((if p2 = 0 then p0 else p1) / (fX4_commonDivisor p0 p1)).toInt64
  else
    0

def fJ6_bitCount_0f7a4_x1_x2_x3_x4  (x4 : Int32) : Int32 :=
  (x4 &&& 63)
def fJ6_bitCount_0f7a4_x1_x2_x3  (x3 : Int32) : Int32 :=
  fJ6_bitCount_0f7a4_x1_x2_x3_x4  ((x3 + (x3.toUInt32 >>> ((8 : Int32).toUInt32 &&& Int32.toUInt32 31)).toInt32) + ((x3 + (x3.toUInt32 >>> ((8 : Int32).toUInt32 &&& Int32.toUInt32 31)).toInt32).toUInt32 >>> ((16 : Int32).toUInt32 &&& Int32.toUInt32 31)).toInt32)
def fJ6_bitCount_0f7a4_x1_x2  (x2 : Int32) : Int32 :=
  fJ6_bitCount_0f7a4_x1_x2_x3  ((x2 + (x2.toUInt32 >>> ((4 : Int32).toUInt32 &&& Int32.toUInt32 31)).toInt32) &&& 252645135)
def fJ6_bitCount_0f7a4_x1  (x1 : Int32) : Int32 :=
  fJ6_bitCount_0f7a4_x1_x2  ((x1 &&& 858993459) + ((x1.toUInt32 >>> ((2 : Int32).toUInt32 &&& Int32.toUInt32 31)).toInt32 &&& 858993459))
def fJ6_bitCount_0f7a4 (p0 : Int32) : Int32 :=
  fJ6_bitCount_0f7a4_x1  (p0 - ((p0.toUInt32 >>> ((1 : Int32).toUInt32 &&& Int32.toUInt32 31)).toInt32 &&& 1431655765))

def fJ7_fill_53178_L5s (p0 : Int32) (k1 : Nat) (oz1 : (Nat → Int32)) : (Nat → Int32) :=
  (upd oz1 (nI k1).toNatClampNeg p0)
def fJ7_fill_53178_L5 (p0 : Int32) (ioz1 : (Nat → Int32)) : Nat → (Nat → Int32)
  | 0 => ioz1
  | k1 + 1 => fJ7_fill_53178_L5s p0 k1 (fJ7_fill_53178_L5 p0 ioz1 k1)
def fJ7_fill_53178 (nz : Nat) (oz : Nat → Int32) (p0 : Int32) : (Nat → Int32) :=
  (fJ7_fill_53178_L5 p0 oz (nz))

def fX0_isThere (oc : OV) (p0 : Int32) : Int32 :=
  (if (fX4_within p0 0 5) = 0 then (0 : Int32) else (if (fX4_hasBit (oc.1 2) p0) = 0 then (0 : Int32) else 1))
theorem zX0_isThere (oc : OV) (p0 : Int32) : fX0_isThere oc p0 = 0 ∨ fX0_isThere oc p0 = 1 := by
  unfold fX0_isThere
  repeat' split
  all_goals first | exact Or.inl rfl | exact Or.inr rfl | exact if_z (Or.inr rfl) (Or.inl rfl) | exact if_z (Or.inl rfl) (Or.inr rfl) | exact zX4_within _ _ _ | exact zX4_hasBit _ _

def fX0_umbrellas (oc : OV) : Int32 :=
  ((oc.1 2) &&& ((oc.1 3) ^^^ (-1)))

def fX0_openTimeAt (oc : OV) (p0 : Int32) (p1 : Int32) (p2 : Int32) : Int32 :=
  ((((if 0 ≤ (p0 - p2) then (p0 - p2) else 0 - (p0 - p2)) * (oc.1 0)) + (if (fX4_hasBit (oc.1 5) p0) = 0 then (0 : Int32) else (oc.1 1))) + p1)

def fX0_openTime (oc : OV) (p0 : Int32) (p1 : Int32) : Int32 :=
  (if (fX4_within p0 0 5) = 0 then ((-6) : Int32) else (fX0_openTimeAt oc ((oc.2 7) p0.toNatClampNeg) ((oc.2 8) p0.toNatClampNeg) p1))

def fX0_firstOf_L9s_x8_x9 (x8 : Int32) (x9 : Int32) : Int32 × Int32 :=
  (x9, x8)
def fX0_firstOf_L9s_x8 (oc : OV) (p1 : Int32) (k1 : Nat) (x4_1 : Int32) (x8 : Int32) : Int32 × Int32 :=
  fX0_firstOf_L9s_x8_x9 x8 (if (fX0_openTimeAt oc ((oc.2 7) (nI k1).toNatClampNeg) ((oc.2 8) (nI k1).toNatClampNeg) p1) < x4_1 then (fX0_openTimeAt oc ((oc.2 7) (nI k1).toNatClampNeg) ((oc.2 8) (nI k1).toNatClampNeg) p1) else x4_1)
def fX0_firstOf_L9s (oc : OV) (p0 : Int32) (p1 : Int32) (k1 : Nat) (x4_1 : Int32) (x3_1 : Int32) : Int32 × Int32 :=
  if (fX4_hasBit p0 (nI k1)) = 0 then
    (x4_1, x3_1)
  else
    fX0_firstOf_L9s_x8 oc p1 k1 x4_1 (if x4_1 ≤ (fX0_openTimeAt oc ((oc.2 7) (nI k1).toNatClampNeg) ((oc.2 8) (nI k1).toNatClampNeg) p1) then (if (fX0_openTimeAt oc ((oc.2 7) (nI k1).toNatClampNeg) ((oc.2 8) (nI k1).toNatClampNeg) p1) = x4_1 then (x3_1 ||| (1 <<< ((nI k1) &&& 31))) else x3_1) else (1 <<< ((nI k1) &&& 31)))
def fX0_firstOf_L9 (oc : OV) (p0 : Int32) (p1 : Int32) (ix4_1 : Int32) (ix3_1 : Int32) : Nat → Int32 × Int32
  | 0 => (ix4_1, ix3_1)
  | k1 + 1 => fX0_firstOf_L9s oc p0 p1 k1 (fX0_firstOf_L9 oc p0 p1 ix4_1 ix3_1 k1).1 (fX0_firstOf_L9 oc p0 p1 ix4_1 ix3_1 k1).2
def fX0_firstOf (oc : OV) (p0 : Int32) (p1 : Int32) : Int32 :=
  (fX0_firstOf_L9 oc p0 p1 2147483647 0 (6)).2

def fX0_rulers (oc : OV) (p0 : Int32) : Int32 :=
  (fX0_firstOf oc (fX0_umbrellas oc) p0)

def fX0_sprinkled_L5s (oc : OV) (p1 : Int32) (k1 : Nat) (x3_1 : Int32) : Int32 :=
  (if ((oc.2 7) (nI k1).toNatClampNeg) = p1 then x3_1 else (fX4_withBit x3_1 (nI k1) 0))
def fX0_sprinkled_L5 (oc : OV) (p1 : Int32) (ix3_1 : Int32) : Nat → Int32
  | 0 => ix3_1
  | k1 + 1 => fX0_sprinkled_L5s oc p1 k1 (fX0_sprinkled_L5 oc p1 ix3_1 k1)
def fX0_sprinkled (oc : OV) (p0 : Int32) (p1 : Int32) : Int32 :=
  (fX0_firstOf oc (fX0_sprinkled_L5 oc p1 p0 (6)) p1)

def fX0_allWeights_L4s (oc : OV) (k1 : Nat) (x1_1 : Int32) : Int32 :=
  (x1_1 + ((oc.2 9) (nI k1).toNatClampNeg))
def fX0_allWeights_L4 (oc : OV) (ix1_1 : Int32) : Nat → Int32
  | 0 => ix1_1
  | k1 + 1 => fX0_allWeights_L4s oc k1 (fX0_allWeights_L4 oc ix1_1 k1)
def fX0_allWeights (oc : OV) : Int32 :=
  (fX0_allWeights_L4 oc 0 (10))

def fX0_allShares (oc : OV) : Int32 :=
  ((fX0_allWeights oc) * 60)

def fX0_shareOf_L4s_x4  (x4 : Int32) : Int32 :=
  x4
def fX0_shareOf_L4s (oc : OV) (p0 : Int32) (k1 : Nat) (x2_1 : Int32) : Int32 :=
  if (fJ6_bitCount_0f7a4 (fX0_firstOf oc (fX0_umbrellas oc) (nI k1))) ≤ 0 then
    x2_1
  else
    fX0_shareOf_L4s_x4  (x2_1 + ((((oc.2 9) (nI k1).toNatClampNeg) * (60 / (fJ6_bitCount_0f7a4 (fX0_firstOf oc (fX0_umbrellas oc) (nI k1))))) * (fJ6_bitCount_0f7a4 ((fX0_firstOf oc (fX0_umbrellas oc) (nI k1)) &&& p0))))
def fX0_shareOf_L4 (oc : OV) (p0 : Int32) (ix2_1 : Int32) : Nat → Int32
  | 0 => ix2_1
  | k1 + 1 => fX0_shareOf_L4s oc p0 k1 (fX0_shareOf_L4 oc p0 ix2_1 k1)
def fX0_shareOf (oc : OV) (p0 : Int32) : Int32 :=
  (fX0_shareOf_L4 oc p0 0 (10))

def fX0_fitsSights_L2 (oc : OV) (p0 : Int32) : Nat → Nat → Int32
  | 0, k1 =>
    if (oc.1 6) ≤ (nI k1) then
      1
    else
      1
  | r1 + 1, k1 =>
    if (oc.1 6) ≤ (nI k1) then
      1
    else
      let x12 : Int32 := (if ((oc.2 10) (nI k1).toNatClampNeg) = 0 then (if p0 = ((oc.2 11) (nI k1).toNatClampNeg) then (1 : Int32) else 0) else (if (fX4_hasBit p0 ((oc.2 11) (nI k1).toNatClampNeg)) = (if ((oc.2 10) (nI k1).toNatClampNeg) = 1 then (1 : Int32) else 0) then (1 : Int32) else 0))
      if x12 = 0 then
        0
      else
        fX0_fitsSights_L2 oc p0 r1 (k1 + 1)
def fX0_fitsSights (oc : OV) (p0 : Int32) : Int32 :=
  fX0_fitsSights_L2 oc p0 (6) 0

def fX0_put (oc : OV) (p0 : Int32) (p1 : Int32) (p2 : Int32) : OV :=
  if (fX4_within p0 0 5) = 0 then
    oc
  else
    (ua (ua oc 7 p0.toNatClampNeg p1) 8 p0.toNatClampNeg p2)

def fX0_addSight (oc : OV) (p0 : Int32) (p1 : Int32) : (Int32 × OV) :=
  if (fX4_within (oc.1 6) 0 5) = 0 then
    (0, oc)
  else
    (1, (us (ua (ua oc 10 (oc.1 6).toNatClampNeg p0) 11 (oc.1 6).toNatClampNeg p1) 6 ((oc.1 6) + 1)))

def fX0_copyFrom (ou : OV) (oc : OV) : OV :=
  (ub (ub (ub (ub (ub (us (us (us (us (us (us (us ou 0 (oc.1 0)) 1 (oc.1 1)) 2 (oc.1 2)) 3 (oc.1 3)) 4 (oc.1 4)) 5 (oc.1 5)) 6 (oc.1 6)) 7 (va_cpy (oc.2 7) (ou.2 7) (0 : Int32).toNatClampNeg (0 : Int32).toNatClampNeg (6 : Int32).toNatClampNeg)) 8 (va_cpy (oc.2 8) (ou.2 8) (0 : Int32).toNatClampNeg (0 : Int32).toNatClampNeg (6 : Int32).toNatClampNeg)) 9 (va_cpy (oc.2 9) (ou.2 9) (0 : Int32).toNatClampNeg (0 : Int32).toNatClampNeg (10 : Int32).toNatClampNeg)) 10 (va_cpy (oc.2 10) (ou.2 10) (0 : Int32).toNatClampNeg (0 : Int32).toNatClampNeg (6 : Int32).toNatClampNeg)) 11 (va_cpy (oc.2 11) (ou.2 11) (0 : Int32).toNatClampNeg (0 : Int32).toNatClampNeg (6 : Int32).toNatClampNeg))

def fX2_takesAnother (p0 : Int32) : Int32 :=
  (if p0 = 33 then (1 : Int32) else (if p0 = 45 then (1 : Int32) else (if p0 = 126 then (1 : Int32) else 0)))
theorem zX2_takesAnother (p0 : Int32) : fX2_takesAnother p0 = 0 ∨ fX2_takesAnother p0 = 1 := by
  unfold fX2_takesAnother
  repeat' split
  all_goals first | exact Or.inl rfl | exact Or.inr rfl | exact if_z (Or.inr rfl) (Or.inl rfl) | exact if_z (Or.inl rfl) (Or.inr rfl)

def fX2_canBegin (p0 : Int32) : Int32 :=
  (if (fX4_within p0 48 57) = 0 then (if p0 = 46 then (1 : Int32) else (if (fX2_takesAnother p0) = 0 then (0 : Int32) else 1)) else 1)
theorem zX2_canBegin (p0 : Int32) : fX2_canBegin p0 = 0 ∨ fX2_canBegin p0 = 1 := by
  unfold fX2_canBegin
  repeat' split
  all_goals first | exact Or.inl rfl | exact Or.inr rfl | exact if_z (Or.inr rfl) (Or.inl rfl) | exact if_z (Or.inl rfl) (Or.inr rfl) | exact zX4_within _ _ _ | exact zX2_takesAnother _

def fX2_canFollow (p0 : Int32) (p1 : Int32) : Int32 :=
  if p0 = 33 then
    (fX4_within p1 48 57)
  else
    if p0 = 45 then
      (fX4_within p1 49 57)
    else
      (fX4_within p1 65 70)
theorem zX2_canFollow (p0 : Int32) (p1 : Int32) : fX2_canFollow p0 p1 = 0 ∨ fX2_canFollow p0 p1 = 1 := by
  unfold fX2_canFollow
  repeat' split
  all_goals first | exact Or.inl rfl | exact Or.inr rfl | exact if_z (Or.inr rfl) (Or.inl rfl) | exact if_z (Or.inl rfl) (Or.inr rfl) | exact zX4_within _ _ _

def fX2_sign (og : OV) (p0 : Int32) : Int32 :=
  (if (fX4_within p0 0 39) = 0 then (0 : Int32) else ((og.2 0) p0.toNatClampNeg))

def fX2_write (og : OV) (p0 : Int32) : (Int32 × OV) :=
  if (fX4_within (og.1 1) 0 39) = 0 then
    (0, og)
  else
    (1, (us (ua og 0 (og.1 1).toNatClampNeg p0) 1 ((og.1 1) + 1)))

def fX2_firstFault_L4 (og : OV) : Nat → Nat → Int32 → Int32
  | 0, k1, x1_1 =>
    (if x1_1 = 0 then ((-6) : Int32) else (og.1 1))
  | r1 + 1, k1, x1_1 =>
    let x5 : Int32 := (if x1_1 = 0 then (fX2_canBegin (fX2_sign og (nI k1))) else (fX2_canFollow x1_1 (fX2_sign og (nI k1))))
    if x5 = 0 then
      (nI k1)
    else
      let x11 : Int32 := (if x1_1 = 0 then (if (fX2_takesAnother (fX2_sign og (nI k1))) = 0 then (0 : Int32) else (fX2_sign og (nI k1))) else 0)
      fX2_firstFault_L4 og r1 (k1 + 1) x11
def fX2_firstFault (og : OV) : Int32 :=
  fX2_firstFault_L4 og ((og.1 1).toNatClampNeg) 0 0

def fX2_parts_L4s (og : OV) (k1 : Nat) (x1_1 : Int32) : Int32 :=
  if (fX2_takesAnother (fX2_sign og (nI k1))) = 0 then
    (x1_1 + 1)
  else
    x1_1
def fX2_parts_L4 (og : OV) (ix1_1 : Int32) : Nat → Int32
  | 0 => ix1_1
  | k1 + 1 => fX2_parts_L4s og k1 (fX2_parts_L4 og ix1_1 k1)
def fX2_parts (og : OV) : Int32 :=
  (fX2_parts_L4 og 0 ((og.1 1).toNatClampNeg))

def fX1_begin (oy : OV) : OV :=
  (ub (us (us (us oy 2 0) 3 0) 4 0) 1 (fJ7_fill_53178 9 (oy.2 1) 0))

def fX1_become (oy : OV) (p0 : Int32) : OV :=
  if p0 = (oy.1 2) then
    (us oy 2 p0)
  else
    if p0 = 0 then
      (us oy 2 p0)
    else
      (us (us oy 4 ((oy.1 4) + 1)) 2 p0)

def fX1_opened (oy : OV) (p0 : Int32) : OV :=
  if p0 = 0 then
    oy
  else
    (fX1_become oy p0)

def fX1_umbrellas (oy : OV) (oc : OV) : Int32 :=
  ((fX0_umbrellas oc) &&& ((oy.1 3) ^^^ (-1)))

def fX1_rain (oy : OV) (oc : OV) (p0 : Int32) : OV :=
  (fX1_opened oy (fX0_firstOf oc (fX1_umbrellas oy oc) p0))

def fX1_breakUmbrella (oy : OV) (p0 : Int32) : OV :=
  (fX1_become (us oy 3 (fX4_withBit (oy.1 3) p0 1)) (fX4_withBit (oy.1 2) p0 0))

def fX1_pass_L2s (p0 : Int32) (k1 : Nat) (oy1 : OV) : OV :=
  (ua oy1 1 (nI k1).toNatClampNeg (((oy1.2 1) (nI k1).toNatClampNeg) + (if (fX4_hasBit (oy1.1 2) (nI k1)) = 0 then (0 : Int32) else p0)))
def fX1_pass_L2 (p0 : Int32) (ioy1 : OV) : Nat → OV
  | 0 => ioy1
  | k1 + 1 => fX1_pass_L2s p0 k1 (fX1_pass_L2 p0 ioy1 k1)
def fX1_pass (oy : OV) (oc : OV) (p0 : Int32) : OV :=
  (ua (ua (ua (fX1_pass_L2 p0 oy (6)) 1 ((6 : Int32).toNatClampNeg) ((((fX1_pass_L2 p0 oy (6)).2 1) (6 : Int32).toNatClampNeg) + (if (((fX1_pass_L2 p0 oy (6)).1 2) &&& ((oc.1 4) ^^^ (-1))) = 0 then (0 : Int32) else p0))) 1 ((7 : Int32).toNatClampNeg) ((((ua (fX1_pass_L2 p0 oy (6)) 1 ((6 : Int32).toNatClampNeg) ((((fX1_pass_L2 p0 oy (6)).2 1) (6 : Int32).toNatClampNeg) + (if (((fX1_pass_L2 p0 oy (6)).1 2) &&& ((oc.1 4) ^^^ (-1))) = 0 then (0 : Int32) else p0))).2 1) (7 : Int32).toNatClampNeg) + (if (((fX1_pass_L2 p0 oy (6)).1 2) &&& (oc.1 4)) = 0 then (0 : Int32) else p0))) 1 ((8 : Int32).toNatClampNeg) ((((ua (ua (fX1_pass_L2 p0 oy (6)) 1 ((6 : Int32).toNatClampNeg) ((((fX1_pass_L2 p0 oy (6)).2 1) (6 : Int32).toNatClampNeg) + (if (((fX1_pass_L2 p0 oy (6)).1 2) &&& ((oc.1 4) ^^^ (-1))) = 0 then (0 : Int32) else p0))) 1 ((7 : Int32).toNatClampNeg) ((((ua (fX1_pass_L2 p0 oy (6)) 1 ((6 : Int32).toNatClampNeg) ((((fX1_pass_L2 p0 oy (6)).2 1) (6 : Int32).toNatClampNeg) + (if (((fX1_pass_L2 p0 oy (6)).1 2) &&& ((oc.1 4) ^^^ (-1))) = 0 then (0 : Int32) else p0))).2 1) (7 : Int32).toNatClampNeg) + (if (((fX1_pass_L2 p0 oy (6)).1 2) &&& (oc.1 4)) = 0 then (0 : Int32) else p0))).2 1) (8 : Int32).toNatClampNeg) + (if ((fX1_pass_L2 p0 oy (6)).1 2) = 0 then p0 else 0)))

def fX1_yearsOf (oy : OV) (p0 : Int32) : Int32 :=
  (if (fX4_within p0 0 8) = 0 then (0 : Int32) else ((oy.2 1) p0.toNatClampNeg))

def fX1_happen (oy : OV) (oc : OV) (p0 : Int32) (p1 : Int32) : OV :=
  if p0 = 33 then
    (fX1_opened oy (fX0_sprinkled oc (fX1_umbrellas oy oc) (p1 - 48)))
  else
    if p0 = 45 then
      (fX1_pass (fX1_become oy 0) oc (p1 - 48))
    else
      if p0 = 126 then
        (fX1_breakUmbrella oy (p1 - 65))
      else
        if p1 = 46 then
          (fX1_pass oy oc 1)
        else
          (fX1_rain oy oc (p1 - 48))

def fX1_play_L12 (oc : OV) (og : OV) (p0 : Int32) : Nat → Nat → Int32 → Int32 → OV → OV
  | 0, k1, x4_1, x3_1, oy1 =>
    oy1
  | r1 + 1, k1, x4_1, x3_1, oy1 =>
    if p0 ≤ x4_1 then
      oy1
    else
      if (fX2_takesAnother (fX2_sign og (nI k1))) = 0 then
        fX1_play_L12 oc og p0 r1 (k1 + 1) (x4_1 + 1) 0 (fX1_happen oy1 oc x3_1 (fX2_sign og (nI k1)))
      else
        fX1_play_L12 oc og p0 r1 (k1 + 1) x4_1 (fX2_sign og (nI k1)) oy1
def fX1_play (oy : OV) (oc : OV) (og : OV) (p0 : Int32) : OV :=
  fX1_play_L12 oc og p0 ((og.1 1).toNatClampNeg) 0 0 0 (fX1_begin oy)

def fX3_pair (p0 : Int32) (p1 : Int32) (p2 : Int32) : Int32 :=
  ((((p0 * 10) + p1) * 10) + p2)

def fX3_keep (ow : OV) (p0 : Int32) (p1 : Int32) (p2 : Int32) : OV :=
  (ua (ua ow 3 p0.toNatClampNeg p1) 4 p2.toNatClampNeg (if ((ow.2 4) p2.toNatClampNeg) < p1 then p1 else ((ow.2 4) p2.toNatClampNeg)))

def fX3_fillTimes_L13s (oc : OV) (p0 : Int32) (p1 : Int32) (k1 : Nat) (k3 : Nat) (ow3 : OV) : OV :=
  (ua ow3 2 (fX3_pair p1 (nI k1) (nI k3)).toNatClampNeg (fX0_openTimeAt oc (nI k1) p0 (nI k3)))
def fX3_fillTimes_L13 (oc : OV) (p0 : Int32) (p1 : Int32) (k1 : Nat) (iow3 : OV) : Nat → OV
  | 0 => iow3
  | k3 + 1 => fX3_fillTimes_L13s oc p0 p1 k1 k3 (fX3_fillTimes_L13 oc p0 p1 k1 iow3 k3)
def fX3_fillTimes_L3s (oc : OV) (p0 : Int32) (p1 : Int32) (k1 : Nat) (ow1 : OV) : OV :=
  (fX3_fillTimes_L13 oc p0 p1 k1 ow1 (10))
def fX3_fillTimes_L3 (oc : OV) (p0 : Int32) (p1 : Int32) (iow1 : OV) : Nat → OV
  | 0 => iow1
  | k1 + 1 => fX3_fillTimes_L3s oc p0 p1 k1 (fX3_fillTimes_L3 oc p0 p1 iow1 k1)
def fX3_fillTimes (ow : OV) (oc : OV) (p0 : Int32) (p1 : Int32) : OV :=
  (fX3_fillTimes_L3 oc p0 p1 ow (10))

def fX3_fillSlots_L18 (oc : OV) : Nat → Nat → Int32 → OV → OV
  | 0, k1, x2_1, ow1 =>
    ow1
  | r1 + 1, k1, x2_1, ow1 =>
    if x2_1 < 0 then
      ow1
    else
      if (fX0_isThere oc (dn 5 k1)) = 0 then
        fX3_fillSlots_L18 oc r1 (k1 + 1) x2_1 ow1
      else
        if (fX4_hasBit (oc.1 3) (dn 5 k1)) = 0 then
          fX3_fillSlots_L18 oc r1 (k1 + 1) (x2_1 + (-1)) (us (fX3_fillTimes ow1 oc ((oc.2 8) (dn 5 k1).toNatClampNeg) x2_1) 0 (((fX3_fillTimes ow1 oc ((oc.2 8) (dn 5 k1).toNatClampNeg) x2_1).1 0) * 10))
        else
          fX3_fillSlots_L18 oc r1 (k1 + 1) (x2_1 + (-1)) (us ow1 0 ((ow1.1 0) * 10))
def fX3_fillSlots (ow : OV) (oc : OV) : OV :=
  fX3_fillSlots_L18 oc (6) 0 2 (us (ub ow 2 (fJ7_fill_53178 300 (ow.2 2) 2147483647)) 0 1)

def fX3_weighRow_L56s_x3_x10_x15_x18_x21 (x15 : Int32) (x18 : Int32) (x21 : Int32) : Int32 × Int32 × Int32 :=
  (x21, x18, x15)
def fX3_weighRow_L56s_x3_x10_x15_x18 (ow : OV) (p0 : Int32) (k1 : Nat) (x10_1 : Int32) (x3 : Int32) (x10 : Int32) (x15 : Int32) (x18 : Int32) : Int32 × Int32 × Int32 :=
  fX3_weighRow_L56s_x3_x10_x15_x18_x21 x15 x18 (x10_1 + (if ((ow.2 2) ((fX3_pair 2 (p0 - p0 / 10 * 10) 0) + (nI k1)).toNatClampNeg) = x3 then (((ow.2 1) (nI k1).toNatClampNeg) * (60 / x10)) else 0))
def fX3_weighRow_L56s_x3_x10_x15 (ow : OV) (p0 : Int32) (k1 : Nat) (x10_1 : Int32) (x9_1 : Int32) (x3 : Int32) (x10 : Int32) (x15 : Int32) : Int32 × Int32 × Int32 :=
  fX3_weighRow_L56s_x3_x10_x15_x18 ow p0 k1 x10_1 x3 x10 x15 (x9_1 + (if ((ow.2 2) ((fX3_pair 1 ((p0 / 10) - (p0 / 10) / 10 * 10) 0) + (nI k1)).toNatClampNeg) = x3 then (((ow.2 1) (nI k1).toNatClampNeg) * (60 / x10)) else 0))
def fX3_weighRow_L56s_x3_x10 (ow : OV) (p0 : Int32) (k1 : Nat) (x10_1 : Int32) (x9_1 : Int32) (x8_1 : Int32) (x3 : Int32) (x10 : Int32) : Int32 × Int32 × Int32 :=
  if x3 = 2147483647 then
    (x10_1, x9_1, x8_1)
  else
    if 1 ≤ x10 then
      fX3_weighRow_L56s_x3_x10_x15 ow p0 k1 x10_1 x9_1 x3 x10 (x8_1 + (if ((ow.2 2) ((fX3_pair 0 (p0 / 100) 0) + (nI k1)).toNatClampNeg) = x3 then (((ow.2 1) (nI k1).toNatClampNeg) * (60 / x10)) else 0))
    else
      (x10_1, x9_1, x8_1)
def fX3_weighRow_L56s_x3 (ow : OV) (p0 : Int32) (k1 : Nat) (x10_1 : Int32) (x9_1 : Int32) (x8_1 : Int32) (x3 : Int32) : Int32 × Int32 × Int32 :=
  fX3_weighRow_L56s_x3_x10 ow p0 k1 x10_1 x9_1 x8_1 x3 (((if ((ow.2 2) ((fX3_pair 0 (p0 / 100) 0) + (nI k1)).toNatClampNeg) = x3 then (1 : Int32) else 0) + (if ((ow.2 2) ((fX3_pair 1 ((p0 / 10) - (p0 / 10) / 10 * 10) 0) + (nI k1)).toNatClampNeg) = x3 then (1 : Int32) else 0)) + (if ((ow.2 2) ((fX3_pair 2 (p0 - p0 / 10 * 10) 0) + (nI k1)).toNatClampNeg) = x3 then (1 : Int32) else 0))
def fX3_weighRow_L56s (ow : OV) (p0 : Int32) (k1 : Nat) (x10_1 : Int32) (x9_1 : Int32) (x8_1 : Int32) : Int32 × Int32 × Int32 :=
  fX3_weighRow_L56s_x3 ow p0 k1 x10_1 x9_1 x8_1 (if (if ((ow.2 2) ((fX3_pair 2 (p0 - p0 / 10 * 10) 0) + (nI k1)).toNatClampNeg) < ((ow.2 2) ((fX3_pair 1 ((p0 / 10) - (p0 / 10) / 10 * 10) 0) + (nI k1)).toNatClampNeg) then ((ow.2 2) ((fX3_pair 2 (p0 - p0 / 10 * 10) 0) + (nI k1)).toNatClampNeg) else ((ow.2 2) ((fX3_pair 1 ((p0 / 10) - (p0 / 10) / 10 * 10) 0) + (nI k1)).toNatClampNeg)) < ((ow.2 2) ((fX3_pair 0 (p0 / 100) 0) + (nI k1)).toNatClampNeg) then (if ((ow.2 2) ((fX3_pair 2 (p0 - p0 / 10 * 10) 0) + (nI k1)).toNatClampNeg) < ((ow.2 2) ((fX3_pair 1 ((p0 / 10) - (p0 / 10) / 10 * 10) 0) + (nI k1)).toNatClampNeg) then ((ow.2 2) ((fX3_pair 2 (p0 - p0 / 10 * 10) 0) + (nI k1)).toNatClampNeg) else ((ow.2 2) ((fX3_pair 1 ((p0 / 10) - (p0 / 10) / 10 * 10) 0) + (nI k1)).toNatClampNeg)) else ((ow.2 2) ((fX3_pair 0 (p0 / 100) 0) + (nI k1)).toNatClampNeg))
def fX3_weighRow_L56 (ow : OV) (p0 : Int32) (ix10_1 : Int32) (ix9_1 : Int32) (ix8_1 : Int32) : Nat → Int32 × Int32 × Int32
  | 0 => (ix10_1, ix9_1, ix8_1)
  | k1 + 1 => fX3_weighRow_L56s ow p0 k1 (fX3_weighRow_L56 ow p0 ix10_1 ix9_1 ix8_1 k1).1 (fX3_weighRow_L56 ow p0 ix10_1 ix9_1 ix8_1 k1).2.1 (fX3_weighRow_L56 ow p0 ix10_1 ix9_1 ix8_1 k1).2.2
def fX3_weighRow (ow : OV) (p0 : Int32) : OV :=
  (fX3_keep (fX3_keep (fX3_keep ow p0 ((fX3_weighRow_L56 ow p0 0 0 0 (10)).2.2) (fX3_pair 0 ((p0 / 10) - (p0 / 10) / 10 * 10) (p0 - p0 / 10 * 10))) (1000 + p0) ((fX3_weighRow_L56 ow p0 0 0 0 (10)).2.1) (fX3_pair 1 (p0 / 100) (p0 - p0 / 10 * 10))) (2000 + p0) ((fX3_weighRow_L56 ow p0 0 0 0 (10)).1) (fX3_pair 2 (p0 / 100) ((p0 / 10) - (p0 / 10) / 10 * 10)))

def fX3_isRest (ow : OV) (p0 : Int32) : Int32 :=
  (if ((ow.2 3) p0.toNatClampNeg) = ((ow.2 4) (fX3_pair 0 ((p0 / 10) - (p0 / 10) / 10 * 10) (p0 - p0 / 10 * 10)).toNatClampNeg) then (if ((ow.2 3) (1000 + p0).toNatClampNeg) = ((ow.2 4) (fX3_pair 1 (p0 / 100) (p0 - p0 / 10 * 10)).toNatClampNeg) then (if ((ow.2 3) (2000 + p0).toNatClampNeg) = ((ow.2 4) (fX3_pair 2 (p0 / 100) ((p0 / 10) - (p0 / 10) / 10 * 10)).toNatClampNeg) then (1 : Int32) else 0) else 0) else 0)
theorem zX3_isRest (ow : OV) (p0 : Int32) : fX3_isRest ow p0 = 0 ∨ fX3_isRest ow p0 = 1 := by
  unfold fX3_isRest
  repeat' split
  all_goals first | exact Or.inl rfl | exact Or.inr rfl | exact if_z (Or.inr rfl) (Or.inl rfl) | exact if_z (Or.inl rfl) (Or.inr rfl)

def fX3_weigh_L30  : Nat → Nat → OV → OV
  | 0, k1, ow1 =>
    if (ow1.1 0) ≤ (nI k1) then
      ow1
    else
      ow1
  | r1 + 1, k1, ow1 =>
    if (ow1.1 0) ≤ (nI k1) then
      ow1
    else
      fX3_weigh_L30 r1 (k1 + 1) (fX3_weighRow ow1 (nI k1))
def fX3_weigh (ow : OV) (oc : OV) : OV :=
  fX3_weigh_L30 (1000) 0 (fX3_fillSlots (ub (ub ow 1 (va_cpy (oc.2 9) (ow.2 1) (0 : Int32).toNatClampNeg (0 : Int32).toNatClampNeg (10 : Int32).toNatClampNeg)) 4 (fJ7_fill_53178 300 (ow.2 4) 0)) oc)

def fX3_howMany_L4 (ow : OV) : Nat → Nat → Int32 → Int32
  | 0, k1, x1_1 =>
    if (ow.1 0) ≤ (nI k1) then
      x1_1
    else
      x1_1
  | r1 + 1, k1, x1_1 =>
    if (ow.1 0) ≤ (nI k1) then
      x1_1
    else
      fX3_howMany_L4 ow r1 (k1 + 1) (x1_1 + (if (fX3_isRest ow (nI k1)) = 0 then (0 : Int32) else 1))
def fX3_howMany (ow : OV) : Int32 :=
  fX3_howMany_L4 ow (1000) 0 0

def fX3_row_L4 (ow : OV) (p0 : Int32) : Nat → Nat → Int32 → Int32
  | 0, k1, x2_1 =>
    if (ow.1 0) ≤ (nI k1) then
      (-6)
    else
      (-6)
  | r1 + 1, k1, x2_1 =>
    if (ow.1 0) ≤ (nI k1) then
      (-6)
    else
      if (fX3_isRest ow (nI k1)) = 0 then
        fX3_row_L4 ow p0 r1 (k1 + 1) x2_1
      else
        if x2_1 = p0 then
          (nI k1)
        else
          fX3_row_L4 ow p0 r1 (k1 + 1) (x2_1 + 1)
def fX3_row (ow : OV) (p0 : Int32) : Int32 :=
  fX3_row_L4 ow p0 (1000) 0 0

def fX4_stand (oc : OV) (p0 : Int32) (p1 : Int32) (p2 : Int32) (p3 : Int32) (p4 : Int32) : (Int32 × OV) :=
  if (fX4_within p0 0 5) = 0 then
    ((-1), oc)
  else
    if (fX4_isPlace p1) = 0 then
      ((-1), oc)
    else
      if (fX4_within p2 0 9) = 0 then
        ((-2), oc)
      else
        if (fX4_within p3 0 1) = 0 then
          ((-2), oc)
        else
          ((fJ6_bitCount_0f7a4 (fX4_withBit ((fX0_put oc p0 p1 p2).1 2) p0 1)), (us (us (us (fX0_put oc p0 p1 p2) 2 (fX4_withBit ((fX0_put oc p0 p1 p2).1 2) p0 1)) 4 (fX4_withBit ((fX0_put oc p0 p1 p2).1 4) p0 (if p3 = 1 then (1 : Int32) else 0))) 3 (fX4_withBit ((fX0_put oc p0 p1 p2).1 3) p0 p4)))

def fX4_leave (oc : OV) (p0 : Int32) : (Int32 × OV) :=
  if (fX0_isThere oc p0) = 0 then
    ((-1), oc)
  else
    ((fJ6_bitCount_0f7a4 (fX4_withBit (oc.1 2) p0 0)), (us oc 2 (fX4_withBit (oc.1 2) p0 0)))

def fX4_table (oc : OV) (p0 : Int32) (p1 : Int32) : (Int32 × OV) :=
  if (fX4_isPlace p0) = 0 then
    ((-1), oc)
  else
    (1, (us oc 5 (fX4_withBit (oc.1 5) p0 p1)))

def fX4_set (oc : OV) (p0 : Int32) (p1 : Int32) : (Int32 × OV) :=
  if p0 = 0 then
    if (fX4_within p1 1 9) = 0 then
      if p0 = 1 then
        if (fX4_within p1 0 9) = 0 then
          ((-2), oc)
        else
          ((oc.1 1), (us oc 1 p1))
      else
        ((-2), oc)
    else
      ((oc.1 0), (us oc 0 p1))
  else
    if p0 = 1 then
      if (fX4_within p1 0 9) = 0 then
        ((-2), oc)
      else
        ((oc.1 1), (us oc 1 p1))
    else
      ((-2), oc)

def fX4_say (og : OV) (p0 : Int32) : (Int32 × OV) :=
  if (fX4_within p0 33 126) = 0 then
    ((-2), og)
  else
    ((if (fX2_write og p0).1 = 0 then ((-4) : Int32) else ((fX2_write og p0).2.1 1)), (fX2_write og p0).2)

def fX4_wipe (og : OV) : (Int32 × OV) :=
  ((og.1 1), (us og 1 0))

def fX4_fault (og : OV) : Int32 :=
  (fX2_firstFault og)

def fX4_rules (oc : OV) (p0 : Int32) (p1 : Int32) : Int32 :=
  if (fX4_isPlace p0) = 0 then
    (-1)
  else
    if (fX4_within p1 0 1) = 0 then
      (-2)
    else
      if (fX0_rulers oc p0) = 0 then
        (-6)
      else
        (if p1 = 0 then (fX0_rulers oc p0) else (fX0_openTime oc (fX4_firstPerson (fX0_rulers oc p0)) p0))

def fX4_opens (oc : OV) (p0 : Int32) (p1 : Int32) : Int32 :=
  if (fX0_isThere oc p0) = 0 then
    (-1)
  else
    if (fX4_isPlace p1) = 0 then
      (-1)
    else
      (if (fX4_hasBit (oc.1 3) p0) = 0 then (fX0_openTime oc p0 p1) else (-6))

def fX4_never_L10s (oc : OV) (k1 : Nat) (x1_1 : Int32) : Int32 :=
  (x1_1 &&& ((fX0_rulers oc (nI k1)) ^^^ (-1)))
def fX4_never_L10 (oc : OV) (ix1_1 : Int32) : Nat → Int32
  | 0 => ix1_1
  | k1 + 1 => fX4_never_L10s oc k1 (fX4_never_L10 oc ix1_1 k1)
def fX4_never (oc : OV) : Int32 :=
  (fX4_never_L10 oc (oc.1 2) (10))

def fX4_reign (oc : OV) (og : OV) (oy : OV) (p0 : Int32) : (Int32 × OV) :=
  if (fX2_firstFault og) = (-6) then
    if (fX4_within p0 (-1) (fX2_parts og)) = 0 then
      ((-2), oy)
    else
      ((if ((fX1_play oy oc og (if p0 = (-1) then (fX2_parts og) else p0)).1 2) = 0 then ((-6) : Int32) else ((fX1_play oy oc og (if p0 = (-1) then (fX2_parts og) else p0)).1 2)), (fX1_play oy oc og (if p0 = (-1) then (fX2_parts og) else p0)))
  else
    ((-5), oy)

def fX4_years (oc : OV) (og : OV) (oy : OV) (p0 : Int32) : (Int32 × OV) :=
  if (fX2_firstFault og) = (-6) then
    if (fX4_within p0 0 9) = 0 then
      ((-2), oy)
    else
      ((if p0 = 9 then ((fX1_play oy oc og (fX2_parts og)).1 4) else (fX1_yearsOf (fX1_play oy oc og (fX2_parts og)) p0)), (fX1_play oy oc og (fX2_parts og)))
  else
    ((-5), oy)

def fX4_weight (oc : OV) (p0 : Int32) (p1 : Int32) : (Int32 × OV) :=
  if (fX4_isPlace p0) = 0 then
    ((-1), oc)
  else
    if (fX4_within p1 0 9) = 0 then
      ((-2), oc)
    else
      if 1 ≤ (((fX0_allWeights oc) - ((oc.2 9) p0.toNatClampNeg)) + p1) then
        (((oc.2 9) p0.toNatClampNeg), (ua oc 9 p0.toNatClampNeg p1))
      else
        ((-2), oc)

def fX4_chance_x7 (oc : OV) (p1 : Int32) (x7 : Int32) : Int64 :=
  (fX4_fraction (fX0_shareOf oc x7) (fX0_allShares oc) p1)
def fX4_chance_x14 (oc : OV) (p1 : Int32) (x14 : Int32) : Int64 :=
  (fX4_fraction (fX0_shareOf oc x14) (fX0_allShares oc) p1)
def fX4_chance_x21 (oc : OV) (p1 : Int32) (x21 : Int32) : Int64 :=
  (fX4_fraction (fX0_shareOf oc x21) (fX0_allShares oc) p1)
def fX4_chance (oc : OV) (p0 : Int32) (p1 : Int32) : Int64 :=
  if p0 = 6 then
    if (fX4_within p1 0 1) = 0 then
      (-1000000000000000002)
    else
      fX4_chance_x7 oc p1 (if p0 = 6 then ((oc.1 4) ^^^ (-1)) else (if p0 = 7 then (oc.1 4) else (1 <<< (p0 &&& 31))))
  else
    if p0 = 7 then
      if (fX4_within p1 0 1) = 0 then
        (-1000000000000000002)
      else
        fX4_chance_x14 oc p1 (if p0 = 6 then ((oc.1 4) ^^^ (-1)) else (if p0 = 7 then (oc.1 4) else (1 <<< (p0 &&& 31))))
    else
      if (fX0_isThere oc p0) = 0 then
        (-1000000000000000001)
      else
        if (fX4_within p1 0 1) = 0 then
          (-1000000000000000002)
        else
          fX4_chance_x21 oc p1 (if p0 = 6 then ((oc.1 4) ^^^ (-1)) else (if p0 = 7 then (oc.1 4) else (1 <<< (p0 &&& 31))))

def fX4_trialShare (oc : OV) (ou : OV) (p0 : Int32) (p1 : Int32) (p2 : Int32) : (Int32 × OV) :=
  ((fX0_shareOf (fX0_put (fX0_copyFrom ou oc) p0 p1 p2) (1 <<< (p0 &&& 31))), (fX0_put (fX0_copyFrom ou oc) p0 p1 p2))

def fX4_bestPlace_L7s (oc : OV) (p0 : Int32) (k1 : Nat) (x3_1 : Int32) (x2_1 : Int32) (ou1 : OV) : Int32 × Int32 × OV :=
  if (fX4_trialShare oc ou1 p0 (nI k1) ((oc.2 8) p0.toNatClampNeg)).1 ≤ x3_1 then
    (x3_1, x2_1, (fX4_trialShare oc ou1 p0 (nI k1) ((oc.2 8) p0.toNatClampNeg)).2)
  else
    ((fX4_trialShare oc ou1 p0 (nI k1) ((oc.2 8) p0.toNatClampNeg)).1, (nI k1), (fX4_trialShare oc ou1 p0 (nI k1) ((oc.2 8) p0.toNatClampNeg)).2)
def fX4_bestPlace_L7 (oc : OV) (p0 : Int32) (ix3_1 : Int32) (ix2_1 : Int32) (iou1 : OV) : Nat → Int32 × Int32 × OV
  | 0 => (ix3_1, ix2_1, iou1)
  | k1 + 1 => fX4_bestPlace_L7s oc p0 k1 (fX4_bestPlace_L7 oc p0 ix3_1 ix2_1 iou1 k1).1 (fX4_bestPlace_L7 oc p0 ix3_1 ix2_1 iou1 k1).2.1 (fX4_bestPlace_L7 oc p0 ix3_1 ix2_1 iou1 k1).2.2
def fX4_bestPlace (oc : OV) (ou : OV) (p0 : Int32) : (Int32 × OV) :=
  ((fX4_bestPlace_L7 oc p0 (-1) 0 ou (10)).2.1, (fX4_bestPlace_L7 oc p0 (-1) 0 ou (10)).2.2)

def fX4_best (oc : OV) (ou : OV) (p0 : Int32) : (Int32 × OV) :=
  if (fX0_isThere oc p0) = 0 then
    ((-1), ou)
  else
    ((fX4_bestPlace oc ou p0).1, (fX4_bestPlace oc ou p0).2)

def fX4_bestChance_x3 (oc : OV) (ou : OV) (p0 : Int32) (p1 : Int32) (x3 : Int32) : (Int64 × OV) :=
  ((fX4_fraction x3 (fX0_allShares oc) p1), (fX4_trialShare oc ((fX4_bestPlace oc ou p0).2) p0 ((fX4_bestPlace oc ou p0).1) ((oc.2 8) p0.toNatClampNeg)).2)
def fX4_bestChance (oc : OV) (ou : OV) (p0 : Int32) (p1 : Int32) : (Int64 × OV) :=
  if (fX0_isThere oc p0) = 0 then
    ((-1000000000000000001), ou)
  else
    if (fX4_within p1 0 1) = 0 then
      ((-1000000000000000002), ou)
    else
      fX4_bestChance_x3 oc ou p0 p1 ((fX4_trialShare oc ((fX4_bestPlace oc ou p0).2) p0 ((fX4_bestPlace oc ou p0).1) ((oc.2 8) p0.toNatClampNeg)).1)

def fX4_rests (oc : OV) (ow : OV) (p0 : Int32) : (Int32 × OV) :=
  if (fJ6_bitCount_0f7a4 (oc.1 2)) ≤ 3 then
    ((if p0 = (-1) then (fX3_howMany (fX3_weigh ow oc)) else (fX3_row (fX3_weigh ow oc) p0)), (fX3_weigh ow oc))
  else
    ((-4), ow)

def fX4_coup (oc : OV) (p0 : Int32) : Int32 :=
  if (fX0_isThere oc p0) = 0 then
    (-1)
  else
    (if (fX0_sprinkled oc (fX0_umbrellas oc) ((oc.2 7) p0.toNatClampNeg)) = (1 <<< (p0 &&& 31)) then ((oc.2 7) p0.toNatClampNeg) else (-6))

def fX4_quick_L50 (oc : OV) (p0 : Int32) (p1 : Int32) (p2 : Int32) : Nat → Nat → OV → (Int32 × OV)
  | 0, k4, ou4 =>
    ((-6), ou4)
  | r4 + 1, k4, ou4 =>
    if ((fX4_trialShare oc ou4 p0 ((oc.2 7) p0.toNatClampNeg) (dn 9 k4)).1 * p2) < (p1 * (fX0_allShares oc)) then
      fX4_quick_L50 oc p0 p1 p2 r4 (k4 + 1) ((fX4_trialShare oc ou4 p0 ((oc.2 7) p0.toNatClampNeg) (dn 9 k4)).2)
    else
      ((dn 9 k4), (fX4_trialShare oc ou4 p0 ((oc.2 7) p0.toNatClampNeg) (dn 9 k4)).2)
def fX4_quick (oc : OV) (ou : OV) (p0 : Int32) (p1 : Int32) (p2 : Int32) : (Int32 × OV) :=
  if (fX0_isThere oc p0) = 0 then
    ((-1), ou)
  else
    if (fX4_within p2 1 100) = 0 then
      ((-2), ou)
    else
      if (fX4_within p1 0 p2) = 0 then
        ((-2), ou)
      else
        fX4_quick_L50 oc p0 p1 p2 (10) 0 ou

def fX4_seen (oc : OV) (p0 : Int32) (p1 : Int32) : (Int32 × OV) :=
  if (fX4_within p0 1 2) = 0 then
    if (fX4_within p0 0 2) = 0 then
      ((-2), oc)
    else
      if p0 = 0 then
        if (fX4_within p1 0 63) = 0 then
          ((-2), oc)
        else
          ((if (fX0_addSight oc p0 p1).1 = 0 then ((-4) : Int32) else ((fX0_addSight oc p0 p1).2.1 6)), (fX0_addSight oc p0 p1).2)
      else
        ((if (fX0_addSight oc p0 p1).1 = 0 then ((-4) : Int32) else ((fX0_addSight oc p0 p1).2.1 6)), (fX0_addSight oc p0 p1).2)
  else
    if (fX4_within p1 0 5) = 0 then
      ((-1), oc)
    else
      if (fX4_within p0 0 2) = 0 then
        ((-2), oc)
      else
        if p0 = 0 then
          if (fX4_within p1 0 63) = 0 then
            ((-2), oc)
          else
            ((if (fX0_addSight oc p0 p1).1 = 0 then ((-4) : Int32) else ((fX0_addSight oc p0 p1).2.1 6)), (fX0_addSight oc p0 p1).2)
        else
          ((if (fX0_addSight oc p0 p1).1 = 0 then ((-4) : Int32) else ((fX0_addSight oc p0 p1).2.1 6)), (fX0_addSight oc p0 p1).2)

def fX4_forget (oc : OV) : (Int32 × OV) :=
  ((oc.1 6), (us oc 6 0))

def fX4_fits_L4s (oc : OV) (k1 : Nat) (x1_1 : Int32) : Int32 :=
  (fX4_withBit x1_1 (nI k1) (fX0_fitsSights oc (fX0_rulers oc (nI k1))))
def fX4_fits_L4 (oc : OV) (ix1_1 : Int32) : Nat → Int32
  | 0 => ix1_1
  | k1 + 1 => fX4_fits_L4s oc k1 (fX4_fits_L4 oc ix1_1 k1)
def fX4_fits (oc : OV) : Int32 :=
  (fX4_fits_L4 oc 0 (10))

def fX4_year_L47s (oc : OV) (k4 : Nat) (x4_4 : Int32) (oy4 : OV) : Int32 × OV :=
  ((((75 * x4_4) + 74) - ((75 * x4_4) + 74) / 65537 * 65537), (fX1_pass (fX1_rain oy4 oc ((((75 * x4_4) + 74) - ((75 * x4_4) + 74) / 65537 * 65537) - (((75 * x4_4) + 74) - ((75 * x4_4) + 74) / 65537 * 65537) / 10 * 10)) oc 1))
def fX4_year_L47 (oc : OV) (ix4_4 : Int32) (ioy4 : OV) : Nat → Int32 × OV
  | 0 => (ix4_4, ioy4)
  | k4 + 1 => fX4_year_L47s oc k4 (fX4_year_L47 oc ix4_4 ioy4 k4).1 (fX4_year_L47 oc ix4_4 ioy4 k4).2
def fX4_year (oc : OV) (oy : OV) (p0 : Int32) (p1 : Int32) (p2 : Int32) : (Int32 × OV) :=
  if (fX4_within p0 0 9999) = 0 then
    ((-2), oy)
  else
    if (fX4_within p1 1 99) = 0 then
      ((-2), oy)
    else
      if (fX4_within p2 0 7) = 0 then
        ((-2), oy)
      else
        if p2 = 7 then
          (((fX4_year_L47 oc p0 (fX1_begin oy) ((p1.toNatClampNeg))).2.1 4), (fX4_year_L47 oc p0 (fX1_begin oy) ((p1.toNatClampNeg))).2)
        else
          ((fX1_yearsOf ((fX4_year_L47 oc p0 (fX1_begin oy) ((p1.toNatClampNeg))).2) (if p2 = 6 then (8 : Int32) else p2)), (fX4_year_L47 oc p0 (fX1_begin oy) ((p1.toNatClampNeg))).2)

def fX4_toldOfPerson (oc : OV) (p0 : Int32) (p1 : Int32) : Int32 :=
  if (fX0_isThere oc p0) = 0 then
    (-2)
  else
    if p1 = 0 then
      ((oc.2 7) p0.toNatClampNeg)
    else
      if p1 = 1 then
        ((oc.2 8) p0.toNatClampNeg)
      else
        if p1 = 2 then
          (if (fX4_hasBit (oc.1 4) p0) = 0 then (0 : Int32) else 1)
        else
          if p1 = 3 then
            (if (fX4_hasBit (oc.1 3) p0) = 0 then (0 : Int32) else 1)
          else
            (-2)

def fX4_told (oc : OV) (og : OV) (p0 : Int32) : Int32 :=
  if p0 = 0 then
    (og.1 1)
  else
    if p0 = 1 then
      (oc.1 2)
    else
      if p0 = 2 then
        (oc.1 0)
      else
        if p0 = 3 then
          (oc.1 1)
        else
          if p0 = 4 then
            (oc.1 5)
          else
            if p0 = 5 then
              (oc.1 6)
            else
              if (fX4_within p0 10 19) = 0 then
                (if 20 ≤ p0 then (fX4_toldOfPerson oc ((p0 - 20) / 10) ((p0 - 20) - (p0 - 20) / 10 * 10)) else (-2))
              else
                ((oc.2 9) (p0 - 10).toNatClampNeg)

def fX5_in (p0 : Int64) (p1 : Int64) (p2 : Int64) : Int32 :=
  (if (lg_cmp p0 p1) < 0 then (0 : Int32) else (if 0 < (lg_cmp p0 p2) then (0 : Int32) else 1))
theorem zX5_in (p0 : Int64) (p1 : Int64) (p2 : Int64) : fX5_in p0 p1 p2 = 0 ∨ fX5_in p0 p1 p2 = 1 := by
  unfold fX5_in
  repeat' split
  all_goals first | exact Or.inl rfl | exact Or.inr rfl | exact if_z (Or.inr rfl) (Or.inl rfl) | exact if_z (Or.inl rfl) (Or.inr rfl)

def fX5_ones_L4  : Nat → Nat → Int32 → Int32 → Int32
  | 0, k1, x2_1, x1_1 =>
    x1_1
  | r1 + 1, k1, x2_1, x1_1 =>
    if x2_1 = 0 then
      x1_1
    else
      fX5_ones_L4 r1 (k1 + 1) (x2_1 &&& (x2_1 - 1)) (x1_1 + 1)
def fX5_ones (p0 : Int32) : Int32 :=
  fX5_ones_L4 (64) 0 p0 0

def fX5_isPerson (p0 : Int32) : Int32 :=
  (fX5_in p0.toInt64 0 5)
theorem zX5_isPerson (p0 : Int32) : fX5_isPerson p0 = 0 ∨ fX5_isPerson p0 = 1 := by
  unfold fX5_isPerson
  repeat' split
  all_goals first | exact Or.inl rfl | exact Or.inr rfl | exact if_z (Or.inr rfl) (Or.inl rfl) | exact if_z (Or.inl rfl) (Or.inr rfl) | exact zX5_in _ _ _

def fX5_isPlace (p0 : Int32) : Int32 :=
  (fX5_in p0.toInt64 0 9)
theorem zX5_isPlace (p0 : Int32) : fX5_isPlace p0 = 0 ∨ fX5_isPlace p0 = 1 := by
  unfold fX5_isPlace
  repeat' split
  all_goals first | exact Or.inl rfl | exact Or.inr rfl | exact if_z (Or.inr rfl) (Or.inl rfl) | exact if_z (Or.inl rfl) (Or.inr rfl) | exact zX5_in _ _ _

def fX5_isThere (om : OV) (p0 : Int32) : Int32 :=
  (if (fX5_isPerson p0) = 0 then (0 : Int32) else (if (((om.1 0) >>> (p0 &&& 31)) &&& 1) = 1 then (1 : Int32) else 0))
theorem zX5_isThere (om : OV) (p0 : Int32) : fX5_isThere om p0 = 0 ∨ fX5_isThere om p0 = 1 := by
  unfold fX5_isThere
  repeat' split
  all_goals first | exact Or.inl rfl | exact Or.inr rfl | exact if_z (Or.inr rfl) (Or.inl rfl) | exact if_z (Or.inl rfl) (Or.inr rfl) | exact zX5_isPerson _

def fX5_table (om : OV) (p0 : Int32) (p1 : Int32) : (Int32 × OV) :=
  if (fX5_isPlace p0) = 0 then
    ((-1), om)
  else
    (1, (us om 5 (if p1 = 0 then ((om.1 5) &&& ((1 <<< (p0 &&& 31)) ^^^ (-1))) else ((om.1 5) ||| (1 <<< (p0 &&& 31))))))

def fX5_set (om : OV) (p0 : Int32) (p1 : Int32) : (Int32 × OV) :=
  if (fX5_in p0.toInt64 0 1) = 0 then
    ((-2), om)
  else
    if (fX5_in p1.toInt64 (if p0 = 0 then (1 : Int64) else 0) 9) = 0 then
      ((-2), om)
    else
      ((if p0 = 0 then (om.1 6) else (om.1 7)), (us (us om 6 (if p0 = 0 then p1 else (om.1 6))) 7 (if p0 = 1 then p1 else (om.1 7))))

def fX5_say (om : OV) (p0 : Int32) : (Int32 × OV) :=
  if (fX5_in p0.toInt64 33 126) = 0 then
    ((-2), om)
  else
    if (om.1 13) = 40 then
      ((-4), om)
    else
      (((om.1 13) + 1), (us (ua om 12 (om.1 13).toNatClampNeg p0) 13 ((om.1 13) + 1)))

def fX5_wipe (om : OV) : (Int32 × OV) :=
  ((om.1 13), (us om 13 0))

def fX5_canStand (p0 : Int32) (p1 : Int32) : Int32 :=
  if p1 = 0 then
    (if (fX5_in p0.toInt64 48 57) = 0 then (if p0 = 33 then (1 : Int32) else (if p0 = 45 then (1 : Int32) else (if p0 = 46 then (1 : Int32) else (if p0 = 126 then (1 : Int32) else 0)))) else 1)
  else
    (if p1 = 126 then (fX5_in p0.toInt64 65 70) else (if (fX5_in p0.toInt64 48 57) = 0 then (0 : Int32) else (if p1 = 33 then (1 : Int32) else (if p0 = 48 then (0 : Int32) else 1))))
theorem zX5_canStand (p0 : Int32) (p1 : Int32) : fX5_canStand p0 p1 = 0 ∨ fX5_canStand p0 p1 = 1 := by
  unfold fX5_canStand
  repeat' split
  all_goals first | exact Or.inl rfl | exact Or.inr rfl | exact if_z (Or.inr rfl) (Or.inl rfl) | exact if_z (Or.inl rfl) (Or.inr rfl) | exact zX5_in _ _ _

def fX5_isOpening (p0 : Int32) (p1 : Int32) : Int32 :=
  (if p1 = 0 then (if p0 = 33 then (1 : Int32) else (if p0 = 45 then (1 : Int32) else (if p0 = 126 then (1 : Int32) else 0))) else 0)
theorem zX5_isOpening (p0 : Int32) (p1 : Int32) : fX5_isOpening p0 p1 = 0 ∨ fX5_isOpening p0 p1 = 1 := by
  unfold fX5_isOpening
  repeat' split
  all_goals first | exact Or.inl rfl | exact Or.inr rfl | exact if_z (Or.inr rfl) (Or.inl rfl) | exact if_z (Or.inl rfl) (Or.inr rfl)

def fX5_fault_L4 (om : OV) : Nat → Nat → Int32 → Int32
  | 0, k1, x1_1 =>
    (if x1_1 = 0 then ((-6) : Int32) else (om.1 13))
  | r1 + 1, k1, x1_1 =>
    if (fX5_canStand ((om.2 12) (nI k1).toNatClampNeg) x1_1) = 0 then
      (nI k1)
    else
      let x6 : Int32 := (if (fX5_isOpening ((om.2 12) (nI k1).toNatClampNeg) x1_1) = 0 then (0 : Int32) else ((om.2 12) (nI k1).toNatClampNeg))
      fX5_fault_L4 om r1 (k1 + 1) x6
def fX5_fault (om : OV) : Int32 :=
  fX5_fault_L4 om ((om.1 13).toNatClampNeg) 0 0

def fX5_opensAt_x5 (om : OV) (p0 : Int32) (x5 : Int32) : Int32 :=
  ((((om.1 6) * x5) + ((om.2 2) p0.toNatClampNeg)) + (if (((om.1 5) >>> (((om.2 1) p0.toNatClampNeg) &&& 31)) &&& 1) = 1 then (om.1 7) else 0))
def fX5_opensAt (om : OV) (p0 : Int32) (p1 : Int32) : Int32 :=
  if (fX5_isThere om p0) = 0 then
    1000
  else
    if (((om.1 4) >>> (p0 &&& 31)) &&& 1) = 1 then
      1000
    else
      fX5_opensAt_x5 om p0 (if ((om.2 1) p0.toNatClampNeg) ≤ p1 then (p1 - ((om.2 1) p0.toNatClampNeg)) else (((om.2 1) p0.toNatClampNeg) - p1))

def fX5_firstAt_L6s (om : OV) (p0 : Int32) (k1 : Nat) (x2_1 : Int32) : Int32 :=
  (if x2_1 ≤ (fX5_opensAt om (nI k1) p0) then x2_1 else (fX5_opensAt om (nI k1) p0))
def fX5_firstAt_L6 (om : OV) (p0 : Int32) (ix2_1 : Int32) : Nat → Int32
  | 0 => ix2_1
  | k1 + 1 => fX5_firstAt_L6s om p0 k1 (fX5_firstAt_L6 om p0 ix2_1 k1)
def fX5_firstAt (om : OV) (p0 : Int32) : Int32 :=
  (fX5_firstAt_L6 om p0 1000 (6))

def fX5_rulersBy_L11 (om : OV) (p0 : Int32) : Nat → Nat → Int32 → Int32
  | 0, k1, x3_1 =>
    x3_1
  | r1 + 1, k1, x3_1 =>
    if 1000 ≤ (fX5_firstAt om p0) then
      x3_1
    else
      let x6 : Int32 := (x3_1 ||| (if (fX5_opensAt om (nI k1) p0) = (fX5_firstAt om p0) then (1 <<< ((nI k1) &&& 31)) else 0))
      fX5_rulersBy_L11 om p0 r1 (k1 + 1) x6
def fX5_rulersBy (om : OV) (p0 : Int32) : Int32 :=
  fX5_rulersBy_L11 om p0 (6) 0 0

def fX5_sprinkledBy_L6s_x7  (x7 : Int32) : Int32 :=
  x7
def fX5_sprinkledBy_L6s (om : OV) (p0 : Int32) (k1 : Nat) (x2_1 : Int32) : Int32 :=
  fX5_sprinkledBy_L6s_x7  (if x2_1 ≤ (if ((om.2 1) (nI k1).toNatClampNeg) = p0 then (fX5_opensAt om (nI k1) p0) else 1000) then x2_1 else (if ((om.2 1) (nI k1).toNatClampNeg) = p0 then (fX5_opensAt om (nI k1) p0) else 1000))
def fX5_sprinkledBy_L6 (om : OV) (p0 : Int32) (ix2_1 : Int32) : Nat → Int32
  | 0 => ix2_1
  | k1 + 1 => fX5_sprinkledBy_L6s om p0 k1 (fX5_sprinkledBy_L6 om p0 ix2_1 k1)
def fX5_sprinkledBy_L60 (om : OV) (p0 : Int32) : Nat → Nat → Int32 → Int32
  | 0, k9, x3_9 =>
    x3_9
  | r9 + 1, k9, x3_9 =>
    if 1000 ≤ (fX5_sprinkledBy_L6 om p0 1000 (6)) then
      x3_9
    else
      let x16 : Int32 := (x3_9 ||| (if ((om.2 1) (nI k9).toNatClampNeg) = p0 then (if (fX5_opensAt om (nI k9) p0) = (fX5_sprinkledBy_L6 om p0 1000 (6)) then (1 <<< ((nI k9) &&& 31)) else 0) else 0))
      fX5_sprinkledBy_L60 om p0 r9 (k9 + 1) x16
def fX5_sprinkledBy (om : OV) (p0 : Int32) : Int32 :=
  fX5_sprinkledBy_L60 om p0 (6) 0 0

def fX5_rules (om : OV) (p0 : Int32) (p1 : Int32) : Int32 :=
  if (fX5_isPlace p0) = 0 then
    (-1)
  else
    if (fX5_in p1.toInt64 0 1) = 0 then
      (-2)
    else
      (if (fX5_firstAt om p0) = 1000 then ((-6) : Int32) else (if p1 = 0 then (fX5_rulersBy om p0) else (fX5_firstAt om p0)))

def fX5_opens (om : OV) (p0 : Int32) (p1 : Int32) : Int32 :=
  if (fX5_isThere om p0) = 0 then
    (-1)
  else
    if (fX5_isPlace p1) = 0 then
      (-1)
    else
      (if (fX5_opensAt om p0 p1) = 1000 then ((-6) : Int32) else (fX5_opensAt om p0 p1))

def fX5_never_L4s (om : OV) (k1 : Nat) (x1_1 : Int32) : Int32 :=
  (x1_1 ||| (fX5_rulersBy om (nI k1)))
def fX5_never_L4 (om : OV) (ix1_1 : Int32) : Nat → Int32
  | 0 => ix1_1
  | k1 + 1 => fX5_never_L4s om k1 (fX5_never_L4 om ix1_1 k1)
def fX5_never (om : OV) : Int32 :=
  ((om.1 0) &&& ((fX5_never_L4 om 0 (10)) ^^^ (-1)))

def fX5_rule (om : OV) (p0 : Int32) : OV :=
  (us (us om 15 ((om.1 15) + (if p0 = 0 then (0 : Int32) else (if p0 = (om.1 16) then (0 : Int32) else 1)))) 16 p0)

def fX5_goYears_L4s_x9 (p0 : Int32) (k1 : Nat) (om1 : OV) (x9 : Int32) : Int32 × OV :=
  (x9, (ua om1 14 (nI k1).toNatClampNeg (((om1.2 14) (nI k1).toNatClampNeg) + (if (if (((om1.1 16) >>> ((nI k1) &&& 31)) &&& 1) = 1 then (1 : Int32) else 0) = 0 then (0 : Int32) else p0))))
def fX5_goYears_L4s (p0 : Int32) (k1 : Nat) (x2_1 : Int32) (om1 : OV) : Int32 × OV :=
  fX5_goYears_L4s_x9 p0 k1 om1 (x2_1 ||| (if (if (((om1.1 16) >>> ((nI k1) &&& 31)) &&& 1) = 1 then (1 : Int32) else 0) = 0 then (0 : Int32) else (1 <<< (((om1.2 3) (nI k1).toNatClampNeg) &&& 31))))
def fX5_goYears_L4 (p0 : Int32) (ix2_1 : Int32) (iom1 : OV) : Nat → Int32 × OV
  | 0 => (ix2_1, iom1)
  | k1 + 1 => fX5_goYears_L4s p0 k1 (fX5_goYears_L4 p0 ix2_1 iom1 k1).1 (fX5_goYears_L4 p0 ix2_1 iom1 k1).2
def fX5_goYears (om : OV) (p0 : Int32) : OV :=
  (ua (ua (ua (fX5_goYears_L4 p0 0 om (6)).2 14 ((6 : Int32).toNatClampNeg) ((((fX5_goYears_L4 p0 0 om (6)).2.2 14) (6 : Int32).toNatClampNeg) + (if ((fX5_goYears_L4 p0 0 om (6)).1 &&& 1) = 1 then p0 else 0))) 14 ((7 : Int32).toNatClampNeg) ((((ua (fX5_goYears_L4 p0 0 om (6)).2 14 ((6 : Int32).toNatClampNeg) ((((fX5_goYears_L4 p0 0 om (6)).2.2 14) (6 : Int32).toNatClampNeg) + (if ((fX5_goYears_L4 p0 0 om (6)).1 &&& 1) = 1 then p0 else 0))).2 14) (7 : Int32).toNatClampNeg) + (if (fX5_goYears_L4 p0 0 om (6)).1 ≤ 1 then (0 : Int32) else p0))) 14 ((8 : Int32).toNatClampNeg) ((((ua (ua (fX5_goYears_L4 p0 0 om (6)).2 14 ((6 : Int32).toNatClampNeg) ((((fX5_goYears_L4 p0 0 om (6)).2.2 14) (6 : Int32).toNatClampNeg) + (if ((fX5_goYears_L4 p0 0 om (6)).1 &&& 1) = 1 then p0 else 0))) 14 ((7 : Int32).toNatClampNeg) ((((ua (fX5_goYears_L4 p0 0 om (6)).2 14 ((6 : Int32).toNatClampNeg) ((((fX5_goYears_L4 p0 0 om (6)).2.2 14) (6 : Int32).toNatClampNeg) + (if ((fX5_goYears_L4 p0 0 om (6)).1 &&& 1) = 1 then p0 else 0))).2 14) (7 : Int32).toNatClampNeg) + (if (fX5_goYears_L4 p0 0 om (6)).1 ≤ 1 then (0 : Int32) else p0))).2 14) (8 : Int32).toNatClampNeg) + (if ((fX5_goYears_L4 p0 0 om (6)).2.1 16) = 0 then p0 else 0)))

def fX5_happen (om : OV) (p0 : Int32) (p1 : Int32) : OV :=
  if p0 = 0 then
    if p1 = 46 then
      (fX5_goYears om 1)
    else
      if p0 = 45 then
        (fX5_goYears (fX5_rule om 0) (p1 - 48))
      else
        if p0 = 126 then
          if (fX5_isThere om (p1 - 65)) = 0 then
            om
          else
            (fX5_rule (us om 4 ((om.1 4) ||| (1 <<< ((p1 - 65) &&& 31)))) ((om.1 16) &&& ((1 <<< ((p1 - 65) &&& 31)) ^^^ (-1))))
        else
          (fX5_rule om (if (if p0 = 0 then (fX5_rulersBy om (p1 - 48)) else (fX5_sprinkledBy om (p1 - 48))) = 0 then (om.1 16) else (if p0 = 0 then (fX5_rulersBy om (p1 - 48)) else (fX5_sprinkledBy om (p1 - 48)))))
  else
    if p0 = 45 then
      (fX5_goYears (fX5_rule om 0) (p1 - 48))
    else
      if p0 = 126 then
        if (fX5_isThere om (p1 - 65)) = 0 then
          om
        else
          (fX5_rule (us om 4 ((om.1 4) ||| (1 <<< ((p1 - 65) &&& 31)))) ((om.1 16) &&& ((1 <<< ((p1 - 65) &&& 31)) ^^^ (-1))))
      else
        (fX5_rule om (if (if p0 = 0 then (fX5_rulersBy om (p1 - 48)) else (fX5_sprinkledBy om (p1 - 48))) = 0 then (om.1 16) else (if p0 = 0 then (fX5_rulersBy om (p1 - 48)) else (fX5_sprinkledBy om (p1 - 48)))))

def fX5_goParts_L2s  (k1 : Nat) (om1 : OV) : OV :=
  (ua om1 14 (nI k1).toNatClampNeg 0)
def fX5_goParts_L2  (iom1 : OV) : Nat → OV
  | 0 => iom1
  | k1 + 1 => fX5_goParts_L2s  k1 (fX5_goParts_L2 iom1 k1)
def fX5_goParts_L44s (p0 : Int32) (k4 : Nat) (x4_4 : Int32) (x3_4 : Int32) (om4 : OV) : Int32 × Int32 × OV :=
  if (fX5_isOpening ((om4.2 12) (nI k4).toNatClampNeg) x3_4) = 0 then
    if p0 < 0 then
      ((x4_4 + 1), 0, (fX5_happen om4 x3_4 ((om4.2 12) (nI k4).toNatClampNeg)))
    else
      if p0 ≤ x4_4 then
        ((x4_4 + 1), 0, om4)
      else
        ((x4_4 + 1), 0, (fX5_happen om4 x3_4 ((om4.2 12) (nI k4).toNatClampNeg)))
  else
    (x4_4, ((om4.2 12) (nI k4).toNatClampNeg), om4)
def fX5_goParts_L44 (p0 : Int32) (ix4_4 : Int32) (ix3_4 : Int32) (iom4 : OV) : Nat → Int32 × Int32 × OV
  | 0 => (ix4_4, ix3_4, iom4)
  | k4 + 1 => fX5_goParts_L44s p0 k4 (fX5_goParts_L44 p0 ix4_4 ix3_4 iom4 k4).1 (fX5_goParts_L44 p0 ix4_4 ix3_4 iom4 k4).2.1 (fX5_goParts_L44 p0 ix4_4 ix3_4 iom4 k4).2.2
def fX5_goParts (om : OV) (p0 : Int32) : (Int32 × OV) :=
  ((fX5_goParts_L44 p0 0 0 (us (us (fX5_goParts_L2 om (9)) 15 0) 16 0) ((om.1 13).toNatClampNeg)).1, (us (fX5_goParts_L44 p0 0 0 (us (us (fX5_goParts_L2 om (9)) 15 0) 16 0) ((om.1 13).toNatClampNeg)).2.2 4 ((fX5_goParts_L2 om (9)).1 4)))

def fX5_reign (om : OV) (p0 : Int32) : (Int32 × OV) :=
  if (fX5_fault om) < 0 then
    if (fX5_in p0.toInt64 (-1) ((fX5_goParts om p0).1.toInt64)) = 0 then
      ((-2), (fX5_goParts om p0).2)
    else
      ((if ((fX5_goParts om p0).2.1 16) = 0 then ((-6) : Int32) else ((fX5_goParts om p0).2.1 16)), (fX5_goParts om p0).2)
  else
    ((-5), om)

def fX5_years (om : OV) (p0 : Int32) : (Int32 × OV) :=
  if (fX5_fault om) < 0 then
    if (fX5_in p0.toInt64 0 9) = 0 then
      ((-2), om)
    else
      ((if p0 = 9 then ((fX5_goParts om (-1)).2.1 15) else (((fX5_goParts om (-1)).2.2 14) p0.toNatClampNeg)), (fX5_goParts om (-1)).2)
  else
    ((-5), om)

def fX5_stand (om : OV) (p0 : Int32) (p1 : Int32) (p2 : Int32) (p3 : Int32) (p4 : Int32) : (Int32 × OV) :=
  if (fX5_isPerson p0) = 0 then
    ((-1), om)
  else
    if (fX5_isPlace p1) = 0 then
      ((-1), om)
    else
      if (fX5_in p2.toInt64 0 9) = 0 then
        ((-2), om)
      else
        if (fX5_in p3.toInt64 0 1) = 0 then
          ((-2), om)
        else
          ((fX5_ones ((om.1 0) ||| (1 <<< (p0 &&& 31)))), (us (us (ua (ua (ua om 1 p0.toNatClampNeg p1) 2 p0.toNatClampNeg p2) 3 p0.toNatClampNeg p3) 4 (if p4 = 0 then ((om.1 4) &&& ((1 <<< (p0 &&& 31)) ^^^ (-1))) else ((om.1 4) ||| (1 <<< (p0 &&& 31))))) 0 ((om.1 0) ||| (1 <<< (p0 &&& 31)))))

def fX5_leave (om : OV) (p0 : Int32) : (Int32 × OV) :=
  if (fX5_isThere om p0) = 0 then
    ((-1), om)
  else
    ((fX5_ones ((om.1 0) &&& ((1 <<< (p0 &&& 31)) ^^^ (-1)))), (us om 0 ((om.1 0) &&& ((1 <<< (p0 &&& 31)) ^^^ (-1)))))

def fX5_weights_L4s (om : OV) (k1 : Nat) (x1_1 : Int32) : Int32 :=
  (x1_1 + ((om.2 8) (nI k1).toNatClampNeg))
def fX5_weights_L4 (om : OV) (ix1_1 : Int32) : Nat → Int32
  | 0 => ix1_1
  | k1 + 1 => fX5_weights_L4s om k1 (fX5_weights_L4 om ix1_1 k1)
def fX5_weights (om : OV) : Int32 :=
  (fX5_weights_L4 om 0 (10))

def fX5_weight (om : OV) (p0 : Int32) (p1 : Int32) : (Int32 × OV) :=
  if (fX5_isPlace p0) = 0 then
    ((-1), om)
  else
    if (fX5_in p1.toInt64 0 9) = 0 then
      ((-2), om)
    else
      if 1 ≤ (((fX5_weights om) - ((om.2 8) p0.toNatClampNeg)) + p1) then
        (((om.2 8) p0.toNatClampNeg), (ua om 8 p0.toNatClampNeg p1))
      else
        ((-2), om)

def fX5_sixtieths_L23s_x11_x14  (x14 : Int32) : Int32 :=
  x14
def fX5_sixtieths_L23s_x11 (om : OV) (k1 : Nat) (k3 : Nat) (x5_3 : Int32) (x11 : Int32) : Int32 :=
  fX5_sixtieths_L23s_x11_x14  (x5_3 + (if x11 = 0 then (0 : Int32) else (((fX5_rulersBy om (nI k1)) >>> ((nI k3) &&& 31)) &&& 1)))
def fX5_sixtieths_L23s (om : OV) (p0 : Int32) (k1 : Nat) (k3 : Nat) (x5_3 : Int32) : Int32 :=
  fX5_sixtieths_L23s_x11 om k1 k3 x5_3 (if 6 ≤ p0 then (if ((om.2 3) (nI k3).toNatClampNeg) = (p0 - 6) then (1 : Int32) else 0) else (if (nI k3) = p0 then (1 : Int32) else 0))
def fX5_sixtieths_L23 (om : OV) (p0 : Int32) (k1 : Nat) (ix5_3 : Int32) : Nat → Int32
  | 0 => ix5_3
  | k3 + 1 => fX5_sixtieths_L23s om p0 k1 k3 (fX5_sixtieths_L23 om p0 k1 ix5_3 k3)
def fX5_sixtieths_L4s_x18  (x18 : Int32) : Int32 :=
  x18
def fX5_sixtieths_L4s (om : OV) (p0 : Int32) (k1 : Nat) (x2_1 : Int32) : Int32 :=
  fX5_sixtieths_L4s_x18  (x2_1 + (if (fX5_rulersBy om (nI k1)) = 0 then (0 : Int32) else ((((om.2 8) (nI k1).toNatClampNeg) * (fX5_sixtieths_L23 om p0 k1 0 (6))) * (60 / (fX5_ones (fX5_rulersBy om (nI k1)))))))
def fX5_sixtieths_L4 (om : OV) (p0 : Int32) (ix2_1 : Int32) : Nat → Int32
  | 0 => ix2_1
  | k1 + 1 => fX5_sixtieths_L4s om p0 k1 (fX5_sixtieths_L4 om p0 ix2_1 k1)
def fX5_sixtieths (om : OV) (p0 : Int32) : Int32 :=
  (fX5_sixtieths_L4 om p0 0 (10))

def fX5_lowest_L6 (p0 : Int64) (p1 : Int64) (p2 : Int32) : Nat → Nat → Int64 → Int64 → Int64
  | 0, k1, x7_1, x5_1 =>
    (if p2 = 0 then (p0 / x5_1) else (p1 / x5_1))
  | r1 + 1, k1, x7_1, x5_1 =>
    if (lg_cmp x7_1 0) = 0 then
      (if p2 = 0 then (p0 / x5_1) else (p1 / x5_1))
    else
      fX5_lowest_L6 p0 p1 p2 r1 (k1 + 1) (x5_1 - x5_1 / x7_1 * x7_1) x7_1
def fX5_lowest (p0 : Int64) (p1 : Int64) (p2 : Int32) : Int64 :=
  fX5_lowest_L6 p0 p1 p2 (40000) 0 p0 p1

def fX5_chance (om : OV) (p0 : Int32) (p1 : Int32) : Int64 :=
  if (fX5_isThere om p0) = 0 then
    if (fX5_in p0.toInt64 6 7) = 0 then
      (-1000000000000000001)
    else
      (if (fX5_in p1.toInt64 0 1) = 0 then ((-1000000000000000002) : Int64) else (fX5_lowest ((fX5_sixtieths om p0).toInt64) ((60 * (fX5_weights om)).toInt64) p1))
  else
    (if (fX5_in p1.toInt64 0 1) = 0 then ((-1000000000000000002) : Int64) else (fX5_lowest ((fX5_sixtieths om p0).toInt64) ((60 * (fX5_weights om)).toInt64) p1))

def fX5_findStand_L20s (p0 : Int32) (k1 : Nat) (om1 : OV) : OV :=
  (us (us (ua om1 1 p0.toNatClampNeg (nI k1)) 17 (if (fX5_sixtieths (ua om1 1 p0.toNatClampNeg (nI k1)) p0) ≤ (om1.1 18) then (om1.1 17) else (nI k1))) 18 (if (fX5_sixtieths (ua om1 1 p0.toNatClampNeg (nI k1)) p0) ≤ (om1.1 18) then (om1.1 18) else (fX5_sixtieths (ua om1 1 p0.toNatClampNeg (nI k1)) p0)))
def fX5_findStand_L20 (p0 : Int32) (iom1 : OV) : Nat → OV
  | 0 => iom1
  | k1 + 1 => fX5_findStand_L20s p0 k1 (fX5_findStand_L20 p0 iom1 k1)
def fX5_findStand (om : OV) (p0 : Int32) : OV :=
  (ua (fX5_findStand_L20 p0 (us (us om 17 (-6)) 18 (-1)) (10)) 1 p0.toNatClampNeg ((om.2 1) p0.toNatClampNeg))

def fX5_best (om : OV) (p0 : Int32) : (Int32 × OV) :=
  if (fX5_isThere om p0) = 0 then
    ((-1), om)
  else
    (((fX5_findStand om p0).1 17), (fX5_findStand om p0))

def fX5_bestChance (om : OV) (p0 : Int32) (p1 : Int32) : (Int64 × OV) :=
  if (fX5_isThere om p0) = 0 then
    ((-1000000000000000001), om)
  else
    if (fX5_in p1.toInt64 0 1) = 0 then
      ((-1000000000000000002), om)
    else
      ((fX5_lowest (((fX5_findStand om p0).1 18).toInt64) ((60 * (fX5_weights (fX5_findStand om p0))).toInt64) p1), (fX5_findStand om p0))

def fX5_keepPlaces_L2s  (k1 : Nat) (om1 : OV) : OV :=
  (ua om1 19 (nI k1).toNatClampNeg ((om1.2 1) (nI k1).toNatClampNeg))
def fX5_keepPlaces_L2  (iom1 : OV) : Nat → OV
  | 0 => iom1
  | k1 + 1 => fX5_keepPlaces_L2s  k1 (fX5_keepPlaces_L2 iom1 k1)
def fX5_keepPlaces (om : OV) : OV :=
  (fX5_keepPlaces_L2 om (6))

def fX5_putPlaces_L2s  (k1 : Nat) (om1 : OV) : OV :=
  (ua om1 1 (nI k1).toNatClampNeg ((om1.2 19) (nI k1).toNatClampNeg))
def fX5_putPlaces_L2  (iom1 : OV) : Nat → OV
  | 0 => iom1
  | k1 + 1 => fX5_putPlaces_L2s  k1 (fX5_putPlaces_L2 iom1 k1)
def fX5_putPlaces (om : OV) : OV :=
  (fX5_putPlaces_L2 om (6))

def fX5_layPlaces_L4s  (k1 : Nat) (x2_1 : Int32) (om1 : OV) : Int32 × OV :=
  if (fX5_isThere om1 (dn 5 k1)) = 0 then
    (x2_1, om1)
  else
    ((x2_1 / 10), (ua om1 1 (dn 5 k1).toNatClampNeg (x2_1 - x2_1 / 10 * 10)))
def fX5_layPlaces_L4  (ix2_1 : Int32) (iom1 : OV) : Nat → Int32 × OV
  | 0 => (ix2_1, iom1)
  | k1 + 1 => fX5_layPlaces_L4s  k1 (fX5_layPlaces_L4 ix2_1 iom1 k1).1 (fX5_layPlaces_L4 ix2_1 iom1 k1).2
def fX5_layPlaces (om : OV) (p0 : Int32) : OV :=
  (fX5_layPlaces_L4 p0 om (6)).2

def fX5_areAtRest_L2  : Nat → Nat → OV → (Int32 × OV)
  | 0, k1, om1 =>
    (1, om1)
  | r1 + 1, k1, om1 =>
    if (fX5_isThere om1 (nI k1)) = 0 then
      fX5_areAtRest_L2 r1 (k1 + 1) om1
    else
      if ((fX5_findStand om1 (nI k1)).1 18) ≤ (fX5_sixtieths om1 (nI k1)) then
        fX5_areAtRest_L2 r1 (k1 + 1) (fX5_findStand om1 (nI k1))
      else
        (0, (fX5_findStand om1 (nI k1)))
def fX5_areAtRest (om : OV) : (Int32 × OV) :=
  fX5_areAtRest_L2 (6) 0 om

def fX5_coup_L12 (om : OV) (p0 : Int32) : Nat → Nat → Int32
  | 0, k2 =>
    (-6)
  | r2 + 1, k2 =>
    if (fX5_sprinkledBy om (nI k2)) = (1 <<< (p0 &&& 31)) then
      (nI k2)
    else
      fX5_coup_L12 om p0 r2 (k2 + 1)
def fX5_coup (om : OV) (p0 : Int32) : Int32 :=
  if (fX5_isThere om p0) = 0 then
    (-1)
  else
    fX5_coup_L12 om p0 (10) 0

def fX5_quick_L51s_x8 (p0 : Int32) (k4 : Nat) (om4 : OV) (x8 : Int32) : Int32 × OV :=
  (x8, (ua om4 2 p0.toNatClampNeg (nI k4)))
def fX5_quick_L51s (p0 : Int32) (p1 : Int32) (p2 : Int32) (k4 : Nat) (x5_4 : Int32) (om4 : OV) : Int32 × OV :=
  fX5_quick_L51s_x8 p0 k4 om4 (if ((fX5_sixtieths (ua om4 2 p0.toNatClampNeg (nI k4)) p0) * p2) < ((p1 * 60) * (fX5_weights (ua om4 2 p0.toNatClampNeg (nI k4)))) then x5_4 else (nI k4))
def fX5_quick_L51 (p0 : Int32) (p1 : Int32) (p2 : Int32) (ix5_4 : Int32) (iom4 : OV) : Nat → Int32 × OV
  | 0 => (ix5_4, iom4)
  | k4 + 1 => fX5_quick_L51s p0 p1 p2 k4 (fX5_quick_L51 p0 p1 p2 ix5_4 iom4 k4).1 (fX5_quick_L51 p0 p1 p2 ix5_4 iom4 k4).2
def fX5_quick (om : OV) (p0 : Int32) (p1 : Int32) (p2 : Int32) : (Int32 × OV) :=
  if (fX5_isThere om p0) = 0 then
    ((-1), om)
  else
    if (fX5_in p2.toInt64 1 100) = 0 then
      ((-2), om)
    else
      if (fX5_in p1.toInt64 0 p2.toInt64) = 0 then
        ((-2), om)
      else
        ((fX5_quick_L51 p0 p1 p2 (-6) om (10)).1, (ua (fX5_quick_L51 p0 p1 p2 (-6) om (10)).2 2 p0.toNatClampNeg ((om.2 2) p0.toNatClampNeg)))

def fX5_seen (om : OV) (p0 : Int32) (p1 : Int32) : (Int32 × OV) :=
  if (fX5_in p0.toInt64 1 2) = 0 then
    if (fX5_in p0.toInt64 0 2) = 0 then
      ((-2), om)
    else
      if p0 = 0 then
        if (fX5_in p1.toInt64 0 63) = 0 then
          ((-2), om)
        else
          if (om.1 11) = 6 then
            ((-4), om)
          else
            (((om.1 11) + 1), (us (ua (ua om 9 (om.1 11).toNatClampNeg p0) 10 (om.1 11).toNatClampNeg p1) 11 ((om.1 11) + 1)))
      else
        if (om.1 11) = 6 then
          ((-4), om)
        else
          (((om.1 11) + 1), (us (ua (ua om 9 (om.1 11).toNatClampNeg p0) 10 (om.1 11).toNatClampNeg p1) 11 ((om.1 11) + 1)))
  else
    if (fX5_isPerson p1) = 0 then
      ((-1), om)
    else
      if (fX5_in p0.toInt64 0 2) = 0 then
        ((-2), om)
      else
        if p0 = 0 then
          if (fX5_in p1.toInt64 0 63) = 0 then
            ((-2), om)
          else
            if (om.1 11) = 6 then
              ((-4), om)
            else
              (((om.1 11) + 1), (us (ua (ua om 9 (om.1 11).toNatClampNeg p0) 10 (om.1 11).toNatClampNeg p1) 11 ((om.1 11) + 1)))
        else
          if (om.1 11) = 6 then
            ((-4), om)
          else
            (((om.1 11) + 1), (us (ua (ua om 9 (om.1 11).toNatClampNeg p0) 10 (om.1 11).toNatClampNeg p1) 11 ((om.1 11) + 1)))

def fX5_forget (om : OV) : (Int32 × OV) :=
  ((om.1 11), (us om 11 0))

def fX5_holds (om : OV) (p0 : Int32) (p1 : Int32) : Int32 :=
  (if ((om.2 9) p0.toNatClampNeg) = 0 then (if p1 = ((om.2 10) p0.toNatClampNeg) then (1 : Int32) else 0) else (if ((p1 >>> (((om.2 10) p0.toNatClampNeg) &&& 31)) &&& 1) = (if ((om.2 9) p0.toNatClampNeg) = 1 then (1 : Int32) else 0) then (1 : Int32) else 0))
theorem zX5_holds (om : OV) (p0 : Int32) (p1 : Int32) : fX5_holds om p0 p1 = 0 ∨ fX5_holds om p0 p1 = 1 := by
  unfold fX5_holds
  repeat' split
  all_goals first | exact Or.inl rfl | exact Or.inr rfl | exact if_z (Or.inr rfl) (Or.inl rfl) | exact if_z (Or.inl rfl) (Or.inr rfl)

def fX5_fits_L22s_x9  (x9 : Int32) : Int32 :=
  x9
def fX5_fits_L22s (om : OV) (k1 : Nat) (k3 : Nat) (x4_3 : Int32) : Int32 :=
  fX5_fits_L22s_x9  (if x4_3 = 0 then (0 : Int32) else (if (fX5_holds om (nI k3) (fX5_rulersBy om (nI k1))) = 0 then (0 : Int32) else 1))
def fX5_fits_L22 (om : OV) (k1 : Nat) (ix4_3 : Int32) : Nat → Int32
  | 0 => ix4_3
  | k3 + 1 => fX5_fits_L22s om k1 k3 (fX5_fits_L22 om k1 ix4_3 k3)
def fX5_fits_L4s_x13  (x13 : Int32) : Int32 :=
  x13
def fX5_fits_L4s (om : OV) (k1 : Nat) (x1_1 : Int32) : Int32 :=
  fX5_fits_L4s_x13  (x1_1 ||| (if (fX5_fits_L22 om k1 1 ((om.1 11).toNatClampNeg)) = 0 then (0 : Int32) else (1 <<< ((nI k1) &&& 31))))
def fX5_fits_L4 (om : OV) (ix1_1 : Int32) : Nat → Int32
  | 0 => ix1_1
  | k1 + 1 => fX5_fits_L4s om k1 (fX5_fits_L4 om ix1_1 k1)
def fX5_fits (om : OV) : Int32 :=
  (fX5_fits_L4 om 0 (10))

def fX5_year_L58s_x6_x13 (x4_4 : Int32) (om4 : OV) (x6 : Int32) (x13 : Int32) : Int32 × Int32 × OV :=
  (x13, (((75 * x4_4.toInt64) + 74) - ((75 * x4_4.toInt64) + 74) / 65537 * 65537).toInt32, (fX5_rule om4 (if x6 = 0 then (om4.1 16) else x6)))
def fX5_year_L58s_x6 (p2 : Int32) (x5_4 : Int32) (x4_4 : Int32) (om4 : OV) (x6 : Int32) : Int32 × Int32 × OV :=
  fX5_year_L58s_x6_x13 x4_4 om4 x6 (x5_4 + (if 6 ≤ p2 then (if ((fX5_rule om4 (if x6 = 0 then (om4.1 16) else x6)).1 16) = 0 then (1 : Int32) else 0) else ((((fX5_rule om4 (if x6 = 0 then (om4.1 16) else x6)).1 16) >>> (p2 &&& 31)) &&& 1)))
def fX5_year_L58s (p2 : Int32) (k4 : Nat) (x5_4 : Int32) (x4_4 : Int32) (om4 : OV) : Int32 × Int32 × OV :=
  fX5_year_L58s_x6 p2 x5_4 x4_4 om4 (fX5_rulersBy om4 ((((75 * x4_4.toInt64) + 74) - ((75 * x4_4.toInt64) + 74) / 65537 * 65537).toInt32 - (((75 * x4_4.toInt64) + 74) - ((75 * x4_4.toInt64) + 74) / 65537 * 65537).toInt32 / 10 * 10))
def fX5_year_L58 (p2 : Int32) (ix5_4 : Int32) (ix4_4 : Int32) (iom4 : OV) : Nat → Int32 × Int32 × OV
  | 0 => (ix5_4, ix4_4, iom4)
  | k4 + 1 => fX5_year_L58s p2 k4 (fX5_year_L58 p2 ix5_4 ix4_4 iom4 k4).1 (fX5_year_L58 p2 ix5_4 ix4_4 iom4 k4).2.1 (fX5_year_L58 p2 ix5_4 ix4_4 iom4 k4).2.2
def fX5_year (om : OV) (p0 : Int32) (p1 : Int32) (p2 : Int32) : (Int32 × OV) :=
  if (fX5_in p0.toInt64 0 9999) = 0 then
    ((-2), om)
  else
    if (fX5_in p1.toInt64 1 99) = 0 then
      ((-2), om)
    else
      if (fX5_in p2.toInt64 0 7) = 0 then
        ((-2), om)
      else
        ((if p2 = 7 then ((fX5_year_L58 p2 0 p0 (us (us om 15 0) 16 0) ((p1.toNatClampNeg))).2.2.1 15) else (fX5_year_L58 p2 0 p0 (us (us om 15 0) 16 0) ((p1.toNatClampNeg))).1), (fX5_year_L58 p2 0 p0 (us (us om 15 0) 16 0) ((p1.toNatClampNeg))).2.2)

def fX5_told_x8 (om : OV) (p0 : Int32) (x8 : Int32) : Int32 :=
  (if x8 = 0 then ((-2) : Int32) else (if (p0 - p0 / 10 * 10) = 0 then ((om.2 1) ((p0 / 10) - 2).toNatClampNeg) else (if (p0 - p0 / 10 * 10) = 1 then ((om.2 2) ((p0 / 10) - 2).toNatClampNeg) else (if (p0 - p0 / 10 * 10) = 2 then ((om.2 3) ((p0 / 10) - 2).toNatClampNeg) else (((om.1 4) >>> (((p0 / 10) - 2) &&& 31)) &&& 1)))))
def fX5_told (om : OV) (p0 : Int32) : Int32 :=
  if (fX5_in p0.toInt64 10 19) = 0 then
    if (fX5_in p0.toInt64 20 79) = 0 then
      if p0 = 0 then
        (om.1 13)
      else
        if p0 = 1 then
          (om.1 0)
        else
          if p0 = 2 then
            (om.1 6)
          else
            if p0 = 3 then
              (om.1 7)
            else
              if p0 = 4 then
                (om.1 5)
              else
                if p0 = 5 then
                  (om.1 11)
                else
                  (-2)
    else
      fX5_told_x8 om p0 (if (fX5_isThere om ((p0 / 10) - 2)) = 0 then (0 : Int32) else (if 4 ≤ (p0 - p0 / 10 * 10) then (0 : Int32) else 1))
  else
    ((om.2 8) (p0 - 10).toNatClampNeg)
end
section
theorem nz_lt1 {x : Int32} (h : 1 ≤ x) : ¬ x = 0 := fun e => absurd (e ▸ h) (by decide)
theorem nz_lt1' {x : Int32} (h : ¬ x < 1) : ¬ x = 0 := fun e => h (by rw [e]; decide)
theorem nz_le0 {x : Int32} (h : ¬ x ≤ 0) : ¬ x = 0 := fun e => h (by rw [e]; decide)
theorem wi_pos {x a b : Int32} (h : ¬ fX4_within x a b = 0) : a.toInt ≤ x.toInt ∧ x.toInt ≤ b.toInt := by
  unfold fX4_within at h
  split at h
  · exact absurd rfl h
  · rename_i h1
    split at h
    · exact absurd rfl h
    · rename_i h2
      rw [Int32.lt_iff_toInt_lt] at h1 h2
      omega
theorem wi_in {x b : Int32} {n : Nat} (h : ¬ fX4_within x 0 b = 0) (hb : b.toInt + 1 = n) : vp_in x n := by
  have h1 := wi_pos h
  have h0 : (0 : Int32).toInt = 0 := by decide
  exact vp_in_iff.mpr (by omega)
theorem wi6 {x : Int32} (h : ¬ fX4_within x 0 5 = 0) : vp_in x 6 := wi_in h (by decide)
theorem wi9 {x : Int32} (h : ¬ fX4_within x 0 8 = 0) : vp_in x 9 := wi_in h (by decide)
theorem wi10 {x : Int32} (h : ¬ fX4_within x 0 9 = 0) : vp_in x 10 := wi_in h (by decide)
theorem wi40 {x : Int32} (h : ¬ fX4_within x 0 39 = 0) : vp_in x 40 := wi_in h (by decide)
theorem bnd_le {x : Int32} {n : Nat} (h : x = nI n) : x ≤ nI n := by rw [← h]; exact Int32.le_refl _
theorem bnd_nle {x : Int32} {n k : Nat} (h : x = nI n) (hk : k < n) (hb : n < 2 ^ 31) : ¬ x ≤ nI k := by rw [h]; exact nI_ge hk hb
theorem cl_lt (x : Int32) : x.toNatClampNeg < 2 ^ 31 := by
  have h := Int32.toInt_lt x
  unfold Int32.toNatClampNeg
  omega
theorem dn_neg (b : Nat) : dn b (b + 1) < 0 := by rw [dn_out]; decide
theorem dn_vin {b k n : Nat} (h : k < b + 1) (hb : b < n) (hn : n < 2 ^ 31) : vp_in (dn b k) n := by rw [dn_in h]; exact vp_in_nI (by omega) hn
theorem sl_dec {x : Int32} (h : x.toInt ≤ 2) (hn : ¬ x < 0) : (x + (-1)).toInt ≤ 2 := by
  rw [Int32.lt_iff_toInt_lt] at hn
  have h0 : (0 : Int32).toInt = 0 := by decide
  obtain ⟨j, hj, rfl⟩ : ∃ j : Nat, j < 2 ^ 31 ∧ x = nI j := nI_of (by rw [Int32.lt_iff_toInt_lt]; omega)
  rw [nI_toInt hj] at h
  have : j = 0 ∨ j = 1 ∨ j = 2 := by omega
  rcases this with rfl | rfl | rfl <;> decide
theorem sl_ex {x : Int32} (h : x.toInt ≤ 2) (hn : ¬ x < 0) : ∃ t : Nat, t < 3 ∧ x = nI t := by
  obtain ⟨j, hj, rfl⟩ := nI_of hn
  rw [nI_toInt hj] at h
  exact ⟨j, by omega, rfl⟩
theorem pr_nI (a b c : Nat) : fX3_pair (nI a) (nI b) (nI c) = nI ((a * 10 + b) * 10 + c) := by
  show ((nI a * nI 10) + nI b) * nI 10 + nI c = _
  rw [pk_mul, nI_add, pk_mul, nI_add]
theorem pr_in {x : Int32} {i j : Nat} (h : ∃ t : Nat, t < 3 ∧ x = nI t) (hi : i < 10) (hj : j < 10) : vp_in (fX3_pair x (nI i) (nI j)) 300 := by
  obtain ⟨t, ht, rfl⟩ := h
  rw [pr_nI]
  exact vp_in_nI (by omega) (by decide)
theorem rw_a {k : Nat} (h : k < 1000) : nI k / 100 = nI (k / 100) := pk_div (d := 100) (by omega) (by decide) (by decide)
theorem rw_b {k : Nat} (h : k < 1000) : (nI k / 10) - (nI k / 10) / 10 * 10 = nI (k / 10 % 10) := by
  rw [show nI k / 10 = nI (k / 10) from pk_div (d := 10) (by omega) (by decide) (by decide)]
  exact pk_rem (d := 10) (by omega) (by decide) (by decide)
theorem rw_c {k : Nat} (h : k < 1000) : nI k - nI k / 10 * 10 = nI (k % 10) := pk_rem (d := 10) (by omega) (by decide) (by decide)
theorem wr_0 {k j : Nat} (h : k < 1000) (hj : j < 10) : vp_in (fX3_pair 0 (nI k / 100) 0 + nI j) 300 := by
  rw [rw_a h, show fX3_pair 0 (nI (k / 100)) 0 = _ from pr_nI 0 (k / 100) 0, nI_add]
  exact vp_in_nI (by omega) (by decide)
theorem wr_1 {k j : Nat} (h : k < 1000) (hj : j < 10) : vp_in (fX3_pair 1 ((nI k / 10) - (nI k / 10) / 10 * 10) 0 + nI j) 300 := by
  rw [rw_b h, show fX3_pair 1 (nI (k / 10 % 10)) 0 = _ from pr_nI 1 (k / 10 % 10) 0, nI_add]
  exact vp_in_nI (by omega) (by decide)
theorem wr_2 {k j : Nat} (h : k < 1000) (hj : j < 10) : vp_in (fX3_pair 2 (nI k - nI k / 10 * 10) 0 + nI j) 300 := by
  rw [rw_c h, show fX3_pair 2 (nI (k % 10)) 0 = _ from pr_nI 2 (k % 10) 0, nI_add]
  exact vp_in_nI (by omega) (by decide)
theorem kp_a {k : Nat} (h : k < 1000) : vp_in (fX3_pair 0 ((nI k / 10) - (nI k / 10) / 10 * 10) (nI k - nI k / 10 * 10)) 300 := by
  rw [rw_b h, rw_c h, show fX3_pair 0 (nI (k / 10 % 10)) (nI (k % 10)) = _ from pr_nI 0 (k / 10 % 10) (k % 10)]
  exact vp_in_nI (by omega) (by decide)
theorem kp_b {k : Nat} (h : k < 1000) : vp_in (fX3_pair 1 (nI k / 100) (nI k - nI k / 10 * 10)) 300 := by
  rw [rw_a h, rw_c h, show fX3_pair 1 (nI (k / 100)) (nI (k % 10)) = _ from pr_nI 1 (k / 100) (k % 10)]
  exact vp_in_nI (by omega) (by decide)
theorem kp_c {k : Nat} (h : k < 1000) : vp_in (fX3_pair 2 (nI k / 100) ((nI k / 10) - (nI k / 10) / 10 * 10)) 300 := by
  rw [rw_a h, rw_b h, show fX3_pair 2 (nI (k / 100)) (nI (k / 10 % 10)) = _ from pr_nI 2 (k / 100) (k / 10 % 10)]
  exact vp_in_nI (by omega) (by decide)
theorem kp_0 {k : Nat} (h : k < 1000) : vp_in (nI k) 3000 := vp_in_nI (by omega) (by decide)
theorem kp_1 {k : Nat} (h : k < 1000) : vp_in (1000 + nI k) 3000 := by
  rw [show (1000 : Int32) + nI k = nI (1000 + k) from nI_add 1000 k]
  exact vp_in_nI (by omega) (by decide)
theorem kp_2 {k : Nat} (h : k < 1000) : vp_in (2000 + nI k) 3000 := by
  rw [show (2000 : Int32) + nI k = nI (2000 + k) from nI_add 2000 k]
  exact vp_in_nI (by omega) (by decide)
theorem ip4 {x : Int32} (h : ¬ fX4_isPlace x = 0) : vp_in x 10 := wi10 h
theorem it6 {o : OV} {x : Int32} (h : ¬ fX0_isThere o x = 0) : vp_in x 6 := by
  unfold fX0_isThere at h
  split at h
  · exact absurd rfl h
  · exact wi6 (by assumption)
theorem wy_eq {x : Int32} (h : ¬ fX4_within x 1 99 = 0) : x = nI x.toNatClampNeg := by
  have h1 := wi_pos h
  have h0 : (1 : Int32).toInt = 1 := by decide
  obtain ⟨j, hj, rfl⟩ := nI_of (x := x) (by rw [Int32.lt_iff_toInt_lt]; have : (0 : Int32).toInt = 0 := by decide
                                            omega)
  rw [nI_clamp hj]
theorem wi_sub {x : Int32} (h : ¬ fX4_within x 10 19 = 0) : vp_in (x - 10) 10 := by
  have h1 := wi_pos h
  have h0 : (10 : Int32).toInt = 10 := by decide
  have h9 : (19 : Int32).toInt = 19 := by decide
  obtain ⟨j, hj, rfl⟩ := nI_of (x := x) (by rw [Int32.lt_iff_toInt_lt]; have : (0 : Int32).toInt = 0 := by decide
                                            omega)
  rw [nI_toInt hj] at h1
  rw [show nI j - 10 = nI (j - 10) from pk_sub (b := 10) (by omega)]
  exact vp_in_nI (by omega) (by decide)
theorem i64_eq (x : Int32) : x.toInt64.toInt = x.toInt := Int32.toInt_toInt64 x
theorem in_pos {a b c : Int64} (h : ¬ fX5_in a b c = 0) : b ≤ a ∧ a ≤ c := by
  unfold fX5_in at h
  split at h
  · exact absurd rfl h
  · rename_i h1
    split at h
    · exact absurd rfl h
    · rename_i h2
      rw [lg_cmp_lt] at h1
      rw [lg_cmp_gt] at h2
      rw [Int64.lt_iff_toInt_lt] at h1 h2
      exact ⟨Int64.le_iff_toInt_le.mpr (by omega), Int64.le_iff_toInt_le.mpr (by omega)⟩
theorem in_posI {x : Int32} {b c : Int64} (h : ¬ fX5_in x.toInt64 b c = 0) : b.toInt ≤ x.toInt ∧ x.toInt ≤ c.toInt := by
  obtain ⟨h1, h2⟩ := in_pos h
  rw [Int64.le_iff_toInt_le, i64_eq] at h1 h2
  exact ⟨h1, h2⟩
theorem in_vp {x : Int32} {c : Int64} {n : Nat} (h : ¬ fX5_in x.toInt64 0 c = 0) (hc : c.toInt + 1 = n) : vp_in x n := by
  have h1 := in_posI h
  have h0 : (0 : Int64).toInt = 0 := by decide
  exact vp_in_iff.mpr (by omega)
theorem ip5 {x : Int32} (h : ¬ fX5_isPerson x = 0) : vp_in x 6 := in_vp (c := 5) h (by decide)
theorem ip10 {x : Int32} (h : ¬ fX5_isPlace x = 0) : vp_in x 10 := in_vp (c := 9) h (by decide)
theorem it5 {o : OV} {x : Int32} (h : ¬ fX5_isThere o x = 0) : vp_in x 6 := by
  unfold fX5_isThere at h
  split at h
  · exact absurd rfl h
  · exact ip5 (by assumption)
theorem yr_in {x : Int32} (h : ¬ fX5_in x.toInt64 0 9 = 0) (h9 : ¬ x = 9) : vp_in x 9 := by
  have h1 := in_posI h
  have h0 : (0 : Int64).toInt = 0 := by decide
  have h2 : (9 : Int64).toInt = 9 := by decide
  have h3 : x.toInt ≠ 9 := fun e => h9 (Int32.toInt_inj.mp (e.trans (by decide)))
  exact vp_in_iff.mpr (by omega)
theorem in_sub {x : Int32} (h : ¬ fX5_in x.toInt64 10 19 = 0) : vp_in (x - 10) 10 := by
  have h1 := in_posI h
  have h0 : (10 : Int64).toInt = 10 := by decide
  have h9 : (19 : Int64).toInt = 19 := by decide
  obtain ⟨j, hj, rfl⟩ := nI_of (x := x) (by rw [Int32.lt_iff_toInt_lt]; have : (0 : Int32).toInt = 0 := by decide
                                            omega)
  rw [nI_toInt hj] at h1
  rw [show nI j - 10 = nI (j - 10) from pk_sub (b := 10) (by omega)]
  exact vp_in_nI (by omega) (by decide)
theorem td_in {o : OV} {x y : Int32} (h : ¬ (if fX5_isThere o x = 0 then (0 : Int32) else (if 4 ≤ y then 0 else 1)) = 0) : vp_in x 6 := by
  split at h
  · exact absurd rfl h
  · exact it5 (by assumption)
theorem wy5_eq {x : Int32} (h : ¬ fX5_in x.toInt64 1 99 = 0) : x = nI x.toNatClampNeg := by
  have h1 := in_posI h
  have h0 : (1 : Int64).toInt = 1 := by decide
  obtain ⟨j, hj, rfl⟩ := nI_of (x := x) (by rw [Int32.lt_iff_toInt_lt]; have : (0 : Int32).toInt = 0 := by decide
                                            omega)
  rw [nI_clamp hj]
theorem sy_in {x : Int32} (h : x.toNatClampNeg ≤ 40 ∧ x = nI x.toNatClampNeg) (hn : ¬ x = 40) : vp_in x 40 := by
  obtain ⟨h1, h2⟩ := h
  have h3 : x.toNatClampNeg ≠ 40 := fun e => hn (by rw [h2, e]; rfl)
  rw [h2]
  exact vp_in_nI (by omega) (by decide)
theorem sn_in {x : Int32} (h : x.toNatClampNeg ≤ 6 ∧ x = nI x.toNatClampNeg) (hn : ¬ x = 6) : vp_in x 6 := by
  obtain ⟨h1, h2⟩ := h
  have h3 : x.toNatClampNeg ≠ 6 := fun e => hn (by rw [h2, e]; rfl)
  rw [h2]
  exact vp_in_nI (by omega) (by decide)
theorem on_z {x : Int32} (h : ∃ b : Nat, x = nI b ∧ b ≤ 0 ∧ b < 1000) : x = 0 := by
  obtain ⟨b, rfl, h, -⟩ := h
  obtain rfl : b = 0 := by omega
  rfl
theorem on_step {x : Int32} {r : Nat} (h : ∃ b : Nat, x = nI b ∧ b ≤ (r + 1) ∧ b < 1000) (hx : ¬ x = 0) : ∃ b : Nat, (x &&& (x - 1)) = nI b ∧ b ≤ r ∧ b < 1000 := by
  obtain ⟨b, rfl, h1, h2⟩ := h
  have hb : 0 < b := by
    rcases Nat.eq_zero_or_pos b with rfl | q
    · exact absurd rfl hx
    · exact q
  have h3 : b &&& (b - 1) ≤ b - 1 := Nat.and_le_right
  refine ⟨b &&& (b - 1), ?_, by omega, by omega⟩
  rw [show nI b - 1 = nI (b - 1) from pk_sub (b := 1) hb, fa_and]
theorem lc_ne {x : Int64} (h : ¬ lg_cmp x 0 = 0) : ¬ x = 0 := fun e => h (lg_cmp_eq x 0 |>.mpr e)
theorem lw_z {x y : Int64} (h : ∃ a b : Nat, x = lN a ∧ y = lN b ∧ 0 < a ∧ a < 1000000 ∧ b < 1000000 ∧ b ≤ 0) : lg_cmp y 0 = 0 := by
  obtain ⟨a, b, -, rfl, -, -, -, h⟩ := h
  obtain rfl : b = 0 := by omega
  exact (lg_cmp_eq _ _).mpr rfl
theorem lw_nz {x y : Int64} {r : Nat} (h : ∃ a b : Nat, x = lN a ∧ y = lN b ∧ 0 < a ∧ a < 1000000 ∧ b < 1000000 ∧ b ≤ r) : ¬ x = 0 := by
  obtain ⟨a, b, rfl, -, h1, h2, -, -⟩ := h
  intro e
  have := (lN_eq (a := a) (b := 0) (by omega) (by decide)).mp e
  omega
theorem lw_step {x y : Int64} {r : Nat} (h : ∃ a b : Nat, x = lN a ∧ y = lN b ∧ 0 < a ∧ a < 1000000 ∧ b < 1000000 ∧ b ≤ (r + 1)) (hc : ¬ lg_cmp y 0 = 0) : ∃ a b : Nat, y = lN a ∧ (x - x / y * y) = lN b ∧ 0 < a ∧ a < 1000000 ∧ b < 1000000 ∧ b ≤ r := by
  obtain ⟨a, b, rfl, rfl, h1, h2, h3, h4⟩ := h
  have hb : 0 < b := by
    rcases Nat.eq_zero_or_pos b with rfl | q
    · exact absurd ((lg_cmp_eq _ _).mpr rfl) hc
    · exact q
  have hm := Nat.mod_lt a hb
  exact ⟨b, a % b, rfl, pk_lRem (by omega) hb (by omega), hb, h3, by omega, by omega⟩
theorem pw6 : ∀ k, k < 6 → (1 : Int32) <<< (nI k &&& 31) = nI (2 ^ k) := by decide +kernel
theorem or64 {a b : Nat} (ha : a < 64) (hb : b < 64) : a ||| b < 64 := Nat.or_lt_two_pow (n := 6) ha hb
theorem rb64L (om : OV) (p : Int32) : ∀ (r k : Nat) (x : Int32), k + r = 6 → (∃ b : Nat, b < 64 ∧ x = nI b) → ∃ b : Nat, b < 64 ∧ fX5_rulersBy_L11 om p r k x = nI b := by
  intro r
  induction r with
  | zero =>
    intro k x _ h
    unfold fX5_rulersBy_L11
    exact h
  | succ r ih =>
    intro k x hk h
    unfold fX5_rulersBy_L11
    split
    · exact h
    · obtain ⟨b, hb, rfl⟩ := h
      refine ih (k + 1) _ (by omega) ?_
      split
      · rw [pw6 k (by omega), fa_or]
        exact ⟨_, or64 hb (Nat.pow_lt_pow_right (by decide) (by omega : k < 6)), rfl⟩
      · exact ⟨b, hb, by rw [show (0 : Int32) = nI 0 from rfl, fa_or, Nat.or_zero]⟩
theorem rb64 (om : OV) (p : Int32) : ∃ b : Nat, b < 64 ∧ fX5_rulersBy om p = nI b := rb64L om p 6 0 0 rfl ⟨0, by decide, rfl⟩
theorem ones_ne : ∀ b, b < 64 → ¬ b = 0 → ¬ fX5_ones (nI b) = 0 := by decide +kernel
theorem ones_nz {x : Int32} (h : ∃ b : Nat, b < 64 ∧ x = nI b) (hx : ¬ x = 0) : ¬ fX5_ones x = 0 := by
  obtain ⟨b, hb, rfl⟩ := h
  exact ones_ne b hb (fun e => hx (by rw [e]; rfl))
theorem vp_nI {x : Int32} {n : Nat} (h : vp_in x n) (hn : n < 2 ^ 31) : ∃ k : Nat, k < n ∧ x = nI k := vp_in_of h hn
theorem st_64 {x p : Int32} (h : ∃ b : Nat, b < 64 ∧ x = nI b) (hp : ¬ fX5_isPerson p = 0) : ∃ b : Nat, b < 64 ∧ (x ||| (1 <<< (p &&& 31))) = nI b := by
  obtain ⟨b, hb, rfl⟩ := h
  obtain ⟨k, hk, rfl⟩ := vp_nI (ip5 hp) (by decide)
  rw [pw6 k hk, fa_or]
  exact ⟨_, or64 hb (Nat.pow_lt_pow_right (by decide) (by omega : k < 6)), rfl⟩
theorem wb_of32 (x : Int32) : ∃ n, n < 2 ^ 32 ∧ x = nI n := ⟨x.toBitVec.toNat, x.toBitVec.isLt, Int32.toBitVec_inj.mp (by show _ = BitVec.ofNat 32 _; simp)⟩
theorem lv_64 {x : Int32} (h : ∃ b : Nat, b < 64 ∧ x = nI b) (y : Int32) : ∃ b : Nat, b < 64 ∧ (x &&& y) = nI b := by
  obtain ⟨b, hb, rfl⟩ := h
  obtain ⟨c, -, rfl⟩ := wb_of32 y
  rw [fa_and]
  exact ⟨b &&& c, Nat.lt_of_le_of_lt Nat.and_le_left hb, rfl⟩
/-- since o only a ruling, reigns, holes and years have changed -/
def hsm (o o' : OV) : Prop := (∀ k, k ≠ 4 → k ≠ 15 → k ≠ 16 → o'.1 k = o.1 k) ∧ ∀ j, j ≠ 14 → o'.2 j = o.2 j
theorem hsm_rf (o : OV) : hsm o o := ⟨fun _ _ _ _ => rfl, fun _ _ => rfl⟩
theorem hsm_us {o o' : OV} {k : Nat} (v : Int32) (h : hsm o o') (hk : k = 4 ∨ k = 15 ∨ k = 16) : hsm o (us o' k v) := by
  refine ⟨fun j h1 h2 h3 => ?_, h.2⟩
  show upd o'.1 k v j = _
  rw [← h.1 j h1 h2 h3]
  exact if_neg (by rcases hk with rfl | rfl | rfl <;> assumption)
theorem hsm_ua {o o' : OV} (i : Nat) (v : Int32) (h : hsm o o') : hsm o (ua o' 14 i v) := by
  refine ⟨h.1, fun j hj => ?_⟩
  rw [← h.2 j hj]
  exact if_neg hj
theorem hsm_rule {o o' : OV} (v : Int32) (h : hsm o o') : hsm o (fX5_rule o' v) := hsm_us _ (hsm_us _ h (Or.inr (Or.inl rfl))) (Or.inr (Or.inr rfl))
theorem hsm_goYearsL {o o' : OV} (p i : Int32) (h : hsm o o') : ∀ k, hsm o (fX5_goYears_L4 p i o' k).2 := by
  intro k
  induction k with
  | zero => exact h
  | succ k ih => exact hsm_ua _ _ ih
theorem hsm_goYears {o o' : OV} (p : Int32) (h : hsm o o') : hsm o (fX5_goYears o' p) := hsm_ua _ _ (hsm_ua _ _ (hsm_ua _ _ (hsm_goYearsL p 0 h 6)))
theorem hsm_happen {o o' : OV} (p q : Int32) (h : hsm o o') : hsm o (fX5_happen o' p q) := by
  unfold fX5_happen
  repeat' split
  all_goals first | exact h | exact hsm_goYears _ h | exact hsm_goYears _ (hsm_rule _ h) | exact hsm_rule _ (hsm_us _ h (Or.inl rfl)) | exact hsm_rule _ h
theorem hsm_L2 {o o' : OV} (h : hsm o o') : ∀ k, hsm o (fX5_goParts_L2 o' k) := by
  intro k
  induction k with
  | zero => exact h
  | succ k ih => exact hsm_ua _ _ ih
theorem hsm_L44 {o o' : OV} (p a b : Int32) (h : hsm o o') : ∀ k, hsm o (fX5_goParts_L44 p a b o' k).2.2 := by
  intro k
  induction k with
  | zero => exact h
  | succ k ih =>
    show hsm o (fX5_goParts_L44s p k _ _ _).2.2
    unfold fX5_goParts_L44s
    repeat' split
    all_goals first | exact ih | exact hsm_happen _ _ ih
theorem hsm_pre (o : OV) : hsm o (us (us (fX5_goParts_L2 o (9)) 15 0) 16 0) := hsm_us _ (hsm_us _ (hsm_L2 (hsm_rf o) 9) (Or.inr (Or.inl rfl))) (Or.inr (Or.inr rfl))
theorem gp_bnd {p a b x4 x3 : Int32} {om om4 : OV} {k : Nat} (hs : fX5_goParts_L44 p a b (us (us (fX5_goParts_L2 om (9)) 15 0) 16 0) k = (x4, x3, om4)) (hn : (om.1 13).toNatClampNeg ≤ 40 ∧ om.1 13 = nI (om.1 13).toNatClampNeg) : om4.1 13 = nI (om.1 13).toNatClampNeg := by
  have h := (hsm_L44 (o := om) p a b (hsm_pre om) k).1 13 (by decide) (by decide) (by decide)
  rw [hs] at h
  exact h.trans hn.2
end
section
theorem sw_c_c_a8 (cI : ClassId) (hc : Nat) (ac : Nat → Nat) (oc : OV) (i : Nat) (v : Int32) : List.set (wX0 cI hc ac oc : va_W) 2 (ac 8, .inl (cI, 6, .inl (upd (oc.2 8) i v))) = (wX0 cI hc ac (ua oc 8 i v) : va_W) := rfl
theorem sw_c_c_a11 (cI : ClassId) (hc : Nat) (ac : Nat → Nat) (oc : OV) (i : Nat) (v : Int32) : List.set (wX0 cI hc ac oc : va_W) 5 (ac 11, .inl (cI, 6, .inl (upd (oc.2 11) i v))) = (wX0 cI hc ac (ua oc 11 i v) : va_W) := rfl
theorem sw_c_c_s6 (cI : ClassId) (hc : Nat) (ac : Nat → Nat) (oc : OV) (v : Int32) : List.set (wX0 cI hc ac oc : va_W) 0 (hc, .inr (0, [.int (oc.1 0), .int (oc.1 1), .int (oc.1 2), .int (oc.1 3), .int (oc.1 4), .int (oc.1 5), .int (oc.1 6), .ref (ac 7), .ref (ac 8), .ref (ac 9), .ref (ac 10), .ref (ac 11)].set 6 (.int v))) = (wX0 cI hc ac (us oc 6 v) : va_W) := rfl
theorem sw_uc_u_s1 (cI : ClassId) (hu : Nat) (au : Nat → Nat) (ou : OV) (hc : Nat) (ac : Nat → Nat) (oc : OV) (v : Int32) : List.set (wX0 cI hu au ou ++ wX0 cI hc ac oc : va_W) 0 (hu, .inr (0, [.int (ou.1 0), .int (ou.1 1), .int (ou.1 2), .int (ou.1 3), .int (ou.1 4), .int (ou.1 5), .int (ou.1 6), .ref (au 7), .ref (au 8), .ref (au 9), .ref (au 10), .ref (au 11)].set 1 (.int v))) = (wX0 cI hu au (us ou 1 v) ++ wX0 cI hc ac oc : va_W) := rfl
theorem sw_uc_u_s2 (cI : ClassId) (hu : Nat) (au : Nat → Nat) (ou : OV) (hc : Nat) (ac : Nat → Nat) (oc : OV) (v : Int32) : List.set (wX0 cI hu au ou ++ wX0 cI hc ac oc : va_W) 0 (hu, .inr (0, [.int (ou.1 0), .int (ou.1 1), .int (ou.1 2), .int (ou.1 3), .int (ou.1 4), .int (ou.1 5), .int (ou.1 6), .ref (au 7), .ref (au 8), .ref (au 9), .ref (au 10), .ref (au 11)].set 2 (.int v))) = (wX0 cI hu au (us ou 2 v) ++ wX0 cI hc ac oc : va_W) := rfl
theorem sw_uc_u_s3 (cI : ClassId) (hu : Nat) (au : Nat → Nat) (ou : OV) (hc : Nat) (ac : Nat → Nat) (oc : OV) (v : Int32) : List.set (wX0 cI hu au ou ++ wX0 cI hc ac oc : va_W) 0 (hu, .inr (0, [.int (ou.1 0), .int (ou.1 1), .int (ou.1 2), .int (ou.1 3), .int (ou.1 4), .int (ou.1 5), .int (ou.1 6), .ref (au 7), .ref (au 8), .ref (au 9), .ref (au 10), .ref (au 11)].set 3 (.int v))) = (wX0 cI hu au (us ou 3 v) ++ wX0 cI hc ac oc : va_W) := rfl
theorem sw_uc_u_s4 (cI : ClassId) (hu : Nat) (au : Nat → Nat) (ou : OV) (hc : Nat) (ac : Nat → Nat) (oc : OV) (v : Int32) : List.set (wX0 cI hu au ou ++ wX0 cI hc ac oc : va_W) 0 (hu, .inr (0, [.int (ou.1 0), .int (ou.1 1), .int (ou.1 2), .int (ou.1 3), .int (ou.1 4), .int (ou.1 5), .int (ou.1 6), .ref (au 7), .ref (au 8), .ref (au 9), .ref (au 10), .ref (au 11)].set 4 (.int v))) = (wX0 cI hu au (us ou 4 v) ++ wX0 cI hc ac oc : va_W) := rfl
theorem sw_uc_u_s5 (cI : ClassId) (hu : Nat) (au : Nat → Nat) (ou : OV) (hc : Nat) (ac : Nat → Nat) (oc : OV) (v : Int32) : List.set (wX0 cI hu au ou ++ wX0 cI hc ac oc : va_W) 0 (hu, .inr (0, [.int (ou.1 0), .int (ou.1 1), .int (ou.1 2), .int (ou.1 3), .int (ou.1 4), .int (ou.1 5), .int (ou.1 6), .ref (au 7), .ref (au 8), .ref (au 9), .ref (au 10), .ref (au 11)].set 5 (.int v))) = (wX0 cI hu au (us ou 5 v) ++ wX0 cI hc ac oc : va_W) := rfl
theorem sw_uc_u_s6 (cI : ClassId) (hu : Nat) (au : Nat → Nat) (ou : OV) (hc : Nat) (ac : Nat → Nat) (oc : OV) (v : Int32) : List.set (wX0 cI hu au ou ++ wX0 cI hc ac oc : va_W) 0 (hu, .inr (0, [.int (ou.1 0), .int (ou.1 1), .int (ou.1 2), .int (ou.1 3), .int (ou.1 4), .int (ou.1 5), .int (ou.1 6), .ref (au 7), .ref (au 8), .ref (au 9), .ref (au 10), .ref (au 11)].set 6 (.int v))) = (wX0 cI hu au (us ou 6 v) ++ wX0 cI hc ac oc : va_W) := rfl
theorem sw_g_g_s1 (cI : ClassId) (hg : Nat) (ag : Nat → Nat) (og : OV) (v : Int32) : List.set (wX2 cI hg ag og : va_W) 0 (hg, .inr (2, [.ref (ag 0), .int (og.1 1)].set 1 (.int v))) = (wX2 cI hg ag (us og 1 v) : va_W) := rfl
theorem sw_y_y_s3_ey (cI : ClassId) (hy : Nat) (ay : Nat → Nat) (oy : OV) (ey : Nat) (v : Int32) : List.set (wX1 cI ey hy ay oy : va_W) 0 (hy, .inr (1, [.ref ey, .ref (ay 1), .int (oy.1 2), .int (oy.1 3), .int (oy.1 4)].set 3 (.int v))) = (wX1 cI ey hy ay (us oy 3 v) : va_W) := rfl
theorem sw_y_y_s4_ey (cI : ClassId) (hy : Nat) (ay : Nat → Nat) (oy : OV) (ey : Nat) (v : Int32) : List.set (wX1 cI ey hy ay oy : va_W) 0 (hy, .inr (1, [.ref ey, .ref (ay 1), .int (oy.1 2), .int (oy.1 3), .int (oy.1 4)].set 4 (.int v))) = (wX1 cI ey hy ay (us oy 4 v) : va_W) := rfl
theorem sw_y_y_s2_ey (cI : ClassId) (hy : Nat) (ay : Nat → Nat) (oy : OV) (ey : Nat) (v : Int32) : List.set (wX1 cI ey hy ay oy : va_W) 0 (hy, .inr (1, [.ref ey, .ref (ay 1), .int (oy.1 2), .int (oy.1 3), .int (oy.1 4)].set 2 (.int v))) = (wX1 cI ey hy ay (us oy 2 v) : va_W) := rfl
theorem sw_yc_y_a1 (cI : ClassId) (hy : Nat) (ay : Nat → Nat) (oy : OV) (hc : Nat) (ac : Nat → Nat) (oc : OV) (i : Nat) (v : Int32) : List.set (wX1 cI hc hy ay oy ++ wX0 cI hc ac oc : va_W) 1 (ay 1, .inl (cI, 9, .inl (upd (oy.2 1) i v))) = (wX1 cI hc hy ay (ua oy 1 i v) ++ wX0 cI hc ac oc : va_W) := rfl
theorem sw_w_w_a4 (cI : ClassId) (hw : Nat) (aw : Nat → Nat) (ow : OV) (i : Nat) (v : Int32) : List.set (wX3 cI hw aw ow : va_W) 4 (aw 4, .inl (cI, 300, .inl (upd (ow.2 4) i v))) = (wX3 cI hw aw (ua ow 4 i v) : va_W) := rfl
theorem sw_wc_w_s0 (cI : ClassId) (hw : Nat) (aw : Nat → Nat) (ow : OV) (hc : Nat) (ac : Nat → Nat) (oc : OV) (v : Int32) : List.set (wX3 cI hw aw ow ++ wX0 cI hc ac oc : va_W) 0 (hw, .inr (3, [.int (ow.1 0), .ref (aw 1), .ref (aw 2), .ref (aw 3), .ref (aw 4)].set 0 (.int v))) = (wX3 cI hw aw (us ow 0 v) ++ wX0 cI hc ac oc : va_W) := rfl
theorem sw_qc_c_s2 (cI : ClassId) (hq hu hi hg hy hw : Nat) (hc : Nat) (ac : Nat → Nat) (oc : OV) (v : Int32) : List.set (wX4 hq hc hu hi hg hy hw ++ wX0 cI hc ac oc : va_W) 1 (hc, .inr (0, [.int (oc.1 0), .int (oc.1 1), .int (oc.1 2), .int (oc.1 3), .int (oc.1 4), .int (oc.1 5), .int (oc.1 6), .ref (ac 7), .ref (ac 8), .ref (ac 9), .ref (ac 10), .ref (ac 11)].set 2 (.int v))) = (wX4 hq hc hu hi hg hy hw ++ wX0 cI hc ac (us oc 2 v) : va_W) := rfl
theorem sw_qc_c_s4 (cI : ClassId) (hq hu hi hg hy hw : Nat) (hc : Nat) (ac : Nat → Nat) (oc : OV) (v : Int32) : List.set (wX4 hq hc hu hi hg hy hw ++ wX0 cI hc ac oc : va_W) 1 (hc, .inr (0, [.int (oc.1 0), .int (oc.1 1), .int (oc.1 2), .int (oc.1 3), .int (oc.1 4), .int (oc.1 5), .int (oc.1 6), .ref (ac 7), .ref (ac 8), .ref (ac 9), .ref (ac 10), .ref (ac 11)].set 4 (.int v))) = (wX4 hq hc hu hi hg hy hw ++ wX0 cI hc ac (us oc 4 v) : va_W) := rfl
theorem sw_qc_c_s3 (cI : ClassId) (hq hu hi hg hy hw : Nat) (hc : Nat) (ac : Nat → Nat) (oc : OV) (v : Int32) : List.set (wX4 hq hc hu hi hg hy hw ++ wX0 cI hc ac oc : va_W) 1 (hc, .inr (0, [.int (oc.1 0), .int (oc.1 1), .int (oc.1 2), .int (oc.1 3), .int (oc.1 4), .int (oc.1 5), .int (oc.1 6), .ref (ac 7), .ref (ac 8), .ref (ac 9), .ref (ac 10), .ref (ac 11)].set 3 (.int v))) = (wX4 hq hc hu hi hg hy hw ++ wX0 cI hc ac (us oc 3 v) : va_W) := rfl
theorem sw_m_m_s7 (cI cZ : ClassId) (hm : Nat) (am : Nat → Nat) (om : OV) (v : Int32) : List.set (wX5 cI cZ hm am om : va_W) 0 (hm, .inr (5, [.int (om.1 0), .ref (am 1), .ref (am 2), .ref (am 3), .int (om.1 4), .int (om.1 5), .int (om.1 6), .int (om.1 7), .ref (am 8), .ref (am 9), .ref (am 10), .int (om.1 11), .ref (am 12), .int (om.1 13), .ref (am 14), .int (om.1 15), .int (om.1 16), .int (om.1 17), .int (om.1 18), .ref (am 19), .ref (am 20), .ref (am 21), .int (om.1 22), .int (om.1 23)].set 7 (.int v))) = (wX5 cI cZ hm am (us om 7 v) : va_W) := rfl
theorem sw_m_m_s13 (cI cZ : ClassId) (hm : Nat) (am : Nat → Nat) (om : OV) (v : Int32) : List.set (wX5 cI cZ hm am om : va_W) 0 (hm, .inr (5, [.int (om.1 0), .ref (am 1), .ref (am 2), .ref (am 3), .int (om.1 4), .int (om.1 5), .int (om.1 6), .int (om.1 7), .ref (am 8), .ref (am 9), .ref (am 10), .int (om.1 11), .ref (am 12), .int (om.1 13), .ref (am 14), .int (om.1 15), .int (om.1 16), .int (om.1 17), .int (om.1 18), .ref (am 19), .ref (am 20), .ref (am 21), .int (om.1 22), .int (om.1 23)].set 13 (.int v))) = (wX5 cI cZ hm am (us om 13 v) : va_W) := rfl
theorem sw_m_m_s16 (cI cZ : ClassId) (hm : Nat) (am : Nat → Nat) (om : OV) (v : Int32) : List.set (wX5 cI cZ hm am om : va_W) 0 (hm, .inr (5, [.int (om.1 0), .ref (am 1), .ref (am 2), .ref (am 3), .int (om.1 4), .int (om.1 5), .int (om.1 6), .int (om.1 7), .ref (am 8), .ref (am 9), .ref (am 10), .int (om.1 11), .ref (am 12), .int (om.1 13), .ref (am 14), .int (om.1 15), .int (om.1 16), .int (om.1 17), .int (om.1 18), .ref (am 19), .ref (am 20), .ref (am 21), .int (om.1 22), .int (om.1 23)].set 16 (.int v))) = (wX5 cI cZ hm am (us om 16 v) : va_W) := rfl
theorem sw_m_m_a14 (cI cZ : ClassId) (hm : Nat) (am : Nat → Nat) (om : OV) (i : Nat) (v : Int32) : List.set (wX5 cI cZ hm am om : va_W) 8 (am 14, .inl (cI, 9, .inl (upd (om.2 14) i v))) = (wX5 cI cZ hm am (ua om 14 i v) : va_W) := rfl
theorem sw_m_m_s15 (cI cZ : ClassId) (hm : Nat) (am : Nat → Nat) (om : OV) (v : Int32) : List.set (wX5 cI cZ hm am om : va_W) 0 (hm, .inr (5, [.int (om.1 0), .ref (am 1), .ref (am 2), .ref (am 3), .int (om.1 4), .int (om.1 5), .int (om.1 6), .int (om.1 7), .ref (am 8), .ref (am 9), .ref (am 10), .int (om.1 11), .ref (am 12), .int (om.1 13), .ref (am 14), .int (om.1 15), .int (om.1 16), .int (om.1 17), .int (om.1 18), .ref (am 19), .ref (am 20), .ref (am 21), .int (om.1 22), .int (om.1 23)].set 15 (.int v))) = (wX5 cI cZ hm am (us om 15 v) : va_W) := rfl
theorem sw_m_m_s4 (cI cZ : ClassId) (hm : Nat) (am : Nat → Nat) (om : OV) (v : Int32) : List.set (wX5 cI cZ hm am om : va_W) 0 (hm, .inr (5, [.int (om.1 0), .ref (am 1), .ref (am 2), .ref (am 3), .int (om.1 4), .int (om.1 5), .int (om.1 6), .int (om.1 7), .ref (am 8), .ref (am 9), .ref (am 10), .int (om.1 11), .ref (am 12), .int (om.1 13), .ref (am 14), .int (om.1 15), .int (om.1 16), .int (om.1 17), .int (om.1 18), .ref (am 19), .ref (am 20), .ref (am 21), .int (om.1 22), .int (om.1 23)].set 4 (.int v))) = (wX5 cI cZ hm am (us om 4 v) : va_W) := rfl
theorem sw_m_m_a2 (cI cZ : ClassId) (hm : Nat) (am : Nat → Nat) (om : OV) (i : Nat) (v : Int32) : List.set (wX5 cI cZ hm am om : va_W) 2 (am 2, .inl (cI, 6, .inl (upd (om.2 2) i v))) = (wX5 cI cZ hm am (ua om 2 i v) : va_W) := rfl
theorem sw_m_m_a3 (cI cZ : ClassId) (hm : Nat) (am : Nat → Nat) (om : OV) (i : Nat) (v : Int32) : List.set (wX5 cI cZ hm am om : va_W) 3 (am 3, .inl (cI, 6, .inl (upd (om.2 3) i v))) = (wX5 cI cZ hm am (ua om 3 i v) : va_W) := rfl
theorem sw_m_m_s0 (cI cZ : ClassId) (hm : Nat) (am : Nat → Nat) (om : OV) (v : Int32) : List.set (wX5 cI cZ hm am om : va_W) 0 (hm, .inr (5, [.int (om.1 0), .ref (am 1), .ref (am 2), .ref (am 3), .int (om.1 4), .int (om.1 5), .int (om.1 6), .int (om.1 7), .ref (am 8), .ref (am 9), .ref (am 10), .int (om.1 11), .ref (am 12), .int (om.1 13), .ref (am 14), .int (om.1 15), .int (om.1 16), .int (om.1 17), .int (om.1 18), .ref (am 19), .ref (am 20), .ref (am 21), .int (om.1 22), .int (om.1 23)].set 0 (.int v))) = (wX5 cI cZ hm am (us om 0 v) : va_W) := rfl
theorem sw_m_m_s18 (cI cZ : ClassId) (hm : Nat) (am : Nat → Nat) (om : OV) (v : Int32) : List.set (wX5 cI cZ hm am om : va_W) 0 (hm, .inr (5, [.int (om.1 0), .ref (am 1), .ref (am 2), .ref (am 3), .int (om.1 4), .int (om.1 5), .int (om.1 6), .int (om.1 7), .ref (am 8), .ref (am 9), .ref (am 10), .int (om.1 11), .ref (am 12), .int (om.1 13), .ref (am 14), .int (om.1 15), .int (om.1 16), .int (om.1 17), .int (om.1 18), .ref (am 19), .ref (am 20), .ref (am 21), .int (om.1 22), .int (om.1 23)].set 18 (.int v))) = (wX5 cI cZ hm am (us om 18 v) : va_W) := rfl
theorem sw_m_m_s17 (cI cZ : ClassId) (hm : Nat) (am : Nat → Nat) (om : OV) (v : Int32) : List.set (wX5 cI cZ hm am om : va_W) 0 (hm, .inr (5, [.int (om.1 0), .ref (am 1), .ref (am 2), .ref (am 3), .int (om.1 4), .int (om.1 5), .int (om.1 6), .int (om.1 7), .ref (am 8), .ref (am 9), .ref (am 10), .int (om.1 11), .ref (am 12), .int (om.1 13), .ref (am 14), .int (om.1 15), .int (om.1 16), .int (om.1 17), .int (om.1 18), .ref (am 19), .ref (am 20), .ref (am 21), .int (om.1 22), .int (om.1 23)].set 17 (.int v))) = (wX5 cI cZ hm am (us om 17 v) : va_W) := rfl
theorem sw_m_m_a1 (cI cZ : ClassId) (hm : Nat) (am : Nat → Nat) (om : OV) (i : Nat) (v : Int32) : List.set (wX5 cI cZ hm am om : va_W) 1 (am 1, .inl (cI, 6, .inl (upd (om.2 1) i v))) = (wX5 cI cZ hm am (ua om 1 i v) : va_W) := rfl
theorem sw_m_m_a10 (cI cZ : ClassId) (hm : Nat) (am : Nat → Nat) (om : OV) (i : Nat) (v : Int32) : List.set (wX5 cI cZ hm am om : va_W) 6 (am 10, .inl (cI, 6, .inl (upd (om.2 10) i v))) = (wX5 cI cZ hm am (ua om 10 i v) : va_W) := rfl
theorem sw_m_m_s11 (cI cZ : ClassId) (hm : Nat) (am : Nat → Nat) (om : OV) (v : Int32) : List.set (wX5 cI cZ hm am om : va_W) 0 (hm, .inr (5, [.int (om.1 0), .ref (am 1), .ref (am 2), .ref (am 3), .int (om.1 4), .int (om.1 5), .int (om.1 6), .int (om.1 7), .ref (am 8), .ref (am 9), .ref (am 10), .int (om.1 11), .ref (am 12), .int (om.1 13), .ref (am 14), .int (om.1 15), .int (om.1 16), .int (om.1 17), .int (om.1 18), .ref (am 19), .ref (am 20), .ref (am 21), .int (om.1 22), .int (om.1 23)].set 11 (.int v))) = (wX5 cI cZ hm am (us om 11 v) : va_W) := rfl
end
