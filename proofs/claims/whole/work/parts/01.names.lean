-- ===== PART A: goes FIRST, ahead of the names: the tables' words, and 'selects' of the private methods out of them =====
/-- a private method of a class that the tables say can be made, by its rows of tables_1 -/
def lw_okq (q : MethodName × Nat) : Prop := (q.1.cls ≠ "java/lang/invoke/MethodHandle" ∧ q.1.cls ≠ "java/lang/invoke/VarHandle") ∧ Cond.instantiable q.1.cls q.2 ∈ tables_1 ∧ Cond.privateMethod q.1 ∈ tables_1 ∧ Cond.instanceMethod q.1 ∈ tables_1
theorem lw_p0 : lw_okq (⟨"FewerLamps$Reader", "nextToken", "()V"⟩, 6) := ⟨⟨by decide +kernel, by decide +kernel⟩, List.mem_of_getElem? (i := 39) (by decide +kernel), List.mem_of_getElem? (i := 285) (by decide +kernel), List.mem_of_getElem? (i := 286) (by decide +kernel)⟩
theorem lw_p1 : lw_okq (⟨"FewerLamps$Reader", "takeLetters", "()V"⟩, 6) := ⟨⟨by decide +kernel, by decide +kernel⟩, List.mem_of_getElem? (i := 39) (by decide +kernel), List.mem_of_getElem? (i := 296) (by decide +kernel), List.mem_of_getElem? (i := 297) (by decide +kernel)⟩
theorem lw_p2 : lw_okq (⟨"FewerLamps$Reader", "takeDigits", "()V"⟩, 6) := ⟨⟨by decide +kernel, by decide +kernel⟩, List.mem_of_getElem? (i := 39) (by decide +kernel), List.mem_of_getElem? (i := 303) (by decide +kernel), List.mem_of_getElem? (i := 304) (by decide +kernel)⟩
theorem lw_p3 : lw_okq (⟨"FewerLamps$Reader", "readItem", "()Z"⟩, 6) := ⟨⟨by decide +kernel, by decide +kernel⟩, List.mem_of_getElem? (i := 39) (by decide +kernel), List.mem_of_getElem? (i := 310) (by decide +kernel), List.mem_of_getElem? (i := 311) (by decide +kernel)⟩
theorem lw_p4 : lw_okq (⟨"FewerLamps$Reader", "readLamp", "()Z"⟩, 6) := ⟨⟨by decide +kernel, by decide +kernel⟩, List.mem_of_getElem? (i := 39) (by decide +kernel), List.mem_of_getElem? (i := 314) (by decide +kernel), List.mem_of_getElem? (i := 315) (by decide +kernel)⟩
theorem lw_p5 : lw_okq (⟨"FewerLamps$Reader", "readNumber", "(I)Z"⟩, 6) := ⟨⟨by decide +kernel, by decide +kernel⟩, List.mem_of_getElem? (i := 39) (by decide +kernel), List.mem_of_getElem? (i := 318) (by decide +kernel), List.mem_of_getElem? (i := 319) (by decide +kernel)⟩
theorem lw_p6 : lw_okq (⟨"FewerLamps$Reader", "readSemicolon", "()Z"⟩, 6) := ⟨⟨by decide +kernel, by decide +kernel⟩, List.mem_of_getElem? (i := 39) (by decide +kernel), List.mem_of_getElem? (i := 322) (by decide +kernel), List.mem_of_getElem? (i := 323) (by decide +kernel)⟩
theorem lw_p7 : lw_okq (⟨"FewerLamps$Reader", "readStreet", "()Z"⟩, 6) := ⟨⟨by decide +kernel, by decide +kernel⟩, List.mem_of_getElem? (i := 39) (by decide +kernel), List.mem_of_getElem? (i := 330) (by decide +kernel), List.mem_of_getElem? (i := 331) (by decide +kernel)⟩
theorem lw_p8 : lw_okq (⟨"FewerLamps", "workNow", "()LFewerLamps$Bellwork;"⟩, 10) := ⟨⟨by decide +kernel, by decide +kernel⟩, List.mem_of_getElem? (i := 15) (by decide +kernel), List.mem_of_getElem? (i := 376) (by decide +kernel), List.mem_of_getElem? (i := 377) (by decide +kernel)⟩
theorem lw_p9 : lw_okq (⟨"FewerLamps$Bellwork", "strike", "(I)I"⟩, 8) := ⟨⟨by decide +kernel, by decide +kernel⟩, List.mem_of_getElem? (i := 147) (by decide +kernel), List.mem_of_getElem? (i := 407) (by decide +kernel), List.mem_of_getElem? (i := 408) (by decide +kernel)⟩
theorem lw_p10 : lw_okq (⟨"FewerLamps$Bellwork", "isOnBehind", "(II)Z"⟩, 8) := ⟨⟨by decide +kernel, by decide +kernel⟩, List.mem_of_getElem? (i := 147) (by decide +kernel), List.mem_of_getElem? (i := 411) (by decide +kernel), List.mem_of_getElem? (i := 412) (by decide +kernel)⟩
theorem lw_p11 : lw_okq (⟨"FewerLamps$Hands", "findNone", "()V"⟩, 6) := ⟨⟨by decide +kernel, by decide +kernel⟩, List.mem_of_getElem? (i := 181) (by decide +kernel), List.mem_of_getElem? (i := 490) (by decide +kernel), List.mem_of_getElem? (i := 491) (by decide +kernel)⟩
theorem lw_p12 : lw_okq (⟨"FewerLamps$Hands", "withRoads", "(I)I"⟩, 6) := ⟨⟨by decide +kernel, by decide +kernel⟩, List.mem_of_getElem? (i := 181) (by decide +kernel), List.mem_of_getElem? (i := 518) (by decide +kernel), List.mem_of_getElem? (i := 519) (by decide +kernel)⟩
theorem lw_p13 : lw_okq (⟨"FewerLamps", "stillsBy", "(II)Z"⟩, 10) := ⟨⟨by decide +kernel, by decide +kernel⟩, List.mem_of_getElem? (i := 15) (by decide +kernel), List.mem_of_getElem? (i := 527) (by decide +kernel), List.mem_of_getElem? (i := 528) (by decide +kernel)⟩
theorem lw_p14 : lw_okq (⟨"FewerLamps", "standsInFog", "(I)I"⟩, 10) := ⟨⟨by decide +kernel, by decide +kernel⟩, List.mem_of_getElem? (i := 15) (by decide +kernel), List.mem_of_getElem? (i := 540) (by decide +kernel), List.mem_of_getElem? (i := 541) (by decide +kernel)⟩
theorem lw_p15 : lw_okq (⟨"FewerLamps$Kinds", "asCorner", "(I)I"⟩, 3) := ⟨⟨by decide +kernel, by decide +kernel⟩, List.mem_of_getElem? (i := 210) (by decide +kernel), List.mem_of_getElem? (i := 566) (by decide +kernel), List.mem_of_getElem? (i := 567) (by decide +kernel)⟩
def lw_privs_1 : List (MethodName × Nat) := [(⟨"FewerLamps$Reader", "nextToken", "()V"⟩, 6), (⟨"FewerLamps$Reader", "takeLetters", "()V"⟩, 6), (⟨"FewerLamps$Reader", "takeDigits", "()V"⟩, 6), (⟨"FewerLamps$Reader", "readItem", "()Z"⟩, 6), (⟨"FewerLamps$Reader", "readLamp", "()Z"⟩, 6), (⟨"FewerLamps$Reader", "readNumber", "(I)Z"⟩, 6), (⟨"FewerLamps$Reader", "readSemicolon", "()Z"⟩, 6), (⟨"FewerLamps$Reader", "readStreet", "()Z"⟩, 6), (⟨"FewerLamps", "workNow", "()LFewerLamps$Bellwork;"⟩, 10), (⟨"FewerLamps$Bellwork", "strike", "(I)I"⟩, 8), (⟨"FewerLamps$Bellwork", "isOnBehind", "(II)Z"⟩, 8), (⟨"FewerLamps$Hands", "findNone", "()V"⟩, 6), (⟨"FewerLamps$Hands", "withRoads", "(I)I"⟩, 6), (⟨"FewerLamps", "stillsBy", "(II)Z"⟩, 10), (⟨"FewerLamps", "standsInFog", "(I)I"⟩, 10), (⟨"FewerLamps$Kinds", "asCorner", "(I)I"⟩, 3)]
theorem lw_r1 : ∀ q ∈ lw_privs_1, lw_okq q := List.forall_mem_cons.mpr ⟨lw_p0, List.forall_mem_cons.mpr ⟨lw_p1, List.forall_mem_cons.mpr ⟨lw_p2, List.forall_mem_cons.mpr ⟨lw_p3, List.forall_mem_cons.mpr ⟨lw_p4, List.forall_mem_cons.mpr ⟨lw_p5, List.forall_mem_cons.mpr ⟨lw_p6, List.forall_mem_cons.mpr ⟨lw_p7, List.forall_mem_cons.mpr ⟨lw_p8, List.forall_mem_cons.mpr ⟨lw_p9, List.forall_mem_cons.mpr ⟨lw_p10, List.forall_mem_cons.mpr ⟨lw_p11, List.forall_mem_cons.mpr ⟨lw_p12, List.forall_mem_cons.mpr ⟨lw_p13, List.forall_mem_cons.mpr ⟨lw_p14, List.forall_mem_cons.mpr ⟨lw_p15, fun _ h => absurd h List.not_mem_nil⟩⟩⟩⟩⟩⟩⟩⟩⟩⟩⟩⟩⟩⟩⟩⟩
theorem lw_p16 : lw_okq (⟨"FewerLamps$Kinds", "asLamp", "(I)I"⟩, 3) := ⟨⟨by decide +kernel, by decide +kernel⟩, List.mem_of_getElem? (i := 210) (by decide +kernel), List.mem_of_getElem? (i := 571) (by decide +kernel), List.mem_of_getElem? (i := 572) (by decide +kernel)⟩
theorem lw_p17 : lw_okq (⟨"FewerLamps$Kinds", "asBroken", "(I)I"⟩, 3) := ⟨⟨by decide +kernel, by decide +kernel⟩, List.mem_of_getElem? (i := 210) (by decide +kernel), List.mem_of_getElem? (i := 576) (by decide +kernel), List.mem_of_getElem? (i := 577) (by decide +kernel)⟩
theorem lw_p18 : lw_okq (⟨"FewerLamps$Kinds", "asHarbour", "(I)I"⟩, 3) := ⟨⟨by decide +kernel, by decide +kernel⟩, List.mem_of_getElem? (i := 210) (by decide +kernel), List.mem_of_getElem? (i := 581) (by decide +kernel), List.mem_of_getElem? (i := 582) (by decide +kernel)⟩
theorem lw_p19 : lw_okq (⟨"FewerLamps$Kinds", "asAlley", "(I)I"⟩, 3) := ⟨⟨by decide +kernel, by decide +kernel⟩, List.mem_of_getElem? (i := 210) (by decide +kernel), List.mem_of_getElem? (i := 586) (by decide +kernel), List.mem_of_getElem? (i := 587) (by decide +kernel)⟩
theorem lw_p20 : lw_okq (⟨"FewerLamps$Kinds", "asBrides", "(I)I"⟩, 3) := ⟨⟨by decide +kernel, by decide +kernel⟩, List.mem_of_getElem? (i := 210) (by decide +kernel), List.mem_of_getElem? (i := 591) (by decide +kernel), List.mem_of_getElem? (i := 592) (by decide +kernel)⟩
theorem lw_p21 : lw_okq (⟨"FewerLampsModel", "reads", "()V"⟩, 29) := ⟨⟨by decide +kernel, by decide +kernel⟩, List.mem_of_getElem? (i := 616) (by decide +kernel), List.mem_of_getElem? (i := 726) (by decide +kernel), List.mem_of_getElem? (i := 727) (by decide +kernel)⟩
theorem lw_p22 : lw_okq (⟨"FewerLampsModel", "readLetters", "()V"⟩, 29) := ⟨⟨by decide +kernel, by decide +kernel⟩, List.mem_of_getElem? (i := 616) (by decide +kernel), List.mem_of_getElem? (i := 735) (by decide +kernel), List.mem_of_getElem? (i := 736) (by decide +kernel)⟩
theorem lw_p23 : lw_okq (⟨"FewerLampsModel", "readNumber", "()V"⟩, 29) := ⟨⟨by decide +kernel, by decide +kernel⟩, List.mem_of_getElem? (i := 616) (by decide +kernel), List.mem_of_getElem? (i := 744) (by decide +kernel), List.mem_of_getElem? (i := 745) (by decide +kernel)⟩
theorem lw_p24 : lw_okq (⟨"FewerLampsModel", "readLamp", "()Z"⟩, 29) := ⟨⟨by decide +kernel, by decide +kernel⟩, List.mem_of_getElem? (i := 616) (by decide +kernel), List.mem_of_getElem? (i := 748) (by decide +kernel), List.mem_of_getElem? (i := 749) (by decide +kernel)⟩
theorem lw_p25 : lw_okq (⟨"FewerLampsModel", "number", "(II)Z"⟩, 29) := ⟨⟨by decide +kernel, by decide +kernel⟩, List.mem_of_getElem? (i := 616) (by decide +kernel), List.mem_of_getElem? (i := 752) (by decide +kernel), List.mem_of_getElem? (i := 753) (by decide +kernel)⟩
theorem lw_p26 : lw_okq (⟨"FewerLampsModel", "readStreet", "()Z"⟩, 29) := ⟨⟨by decide +kernel, by decide +kernel⟩, List.mem_of_getElem? (i := 616) (by decide +kernel), List.mem_of_getElem? (i := 756) (by decide +kernel), List.mem_of_getElem? (i := 757) (by decide +kernel)⟩
theorem lw_p27 : lw_okq (⟨"FewerLampsModel", "isLamp", "(I)Z"⟩, 29) := ⟨⟨by decide +kernel, by decide +kernel⟩, List.mem_of_getElem? (i := 616) (by decide +kernel), List.mem_of_getElem? (i := 764) (by decide +kernel), List.mem_of_getElem? (i := 765) (by decide +kernel)⟩
theorem lw_p28 : lw_okq (⟨"FewerLampsModel", "beside", "(II)I"⟩, 29) := ⟨⟨by decide +kernel, by decide +kernel⟩, List.mem_of_getElem? (i := 616) (by decide +kernel), List.mem_of_getElem? (i := 768) (by decide +kernel), List.mem_of_getElem? (i := 769) (by decide +kernel)⟩
theorem lw_p29 : lw_okq (⟨"FewerLampsModel", "notes", "()V"⟩, 29) := ⟨⟨by decide +kernel, by decide +kernel⟩, List.mem_of_getElem? (i := 616) (by decide +kernel), List.mem_of_getElem? (i := 784) (by decide +kernel), List.mem_of_getElem? (i := 785) (by decide +kernel)⟩
theorem lw_p30 : lw_okq (⟨"FewerLampsModel", "looks", "(I)V"⟩, 29) := ⟨⟨by decide +kernel, by decide +kernel⟩, List.mem_of_getElem? (i := 616) (by decide +kernel), List.mem_of_getElem? (i := 788) (by decide +kernel), List.mem_of_getElem? (i := 789) (by decide +kernel)⟩
theorem lw_p31 : lw_okq (⟨"FewerLampsModel", "rings", "(I)I"⟩, 29) := ⟨⟨by decide +kernel, by decide +kernel⟩, List.mem_of_getElem? (i := 616) (by decide +kernel), List.mem_of_getElem? (i := 792) (by decide +kernel), List.mem_of_getElem? (i := 793) (by decide +kernel)⟩
def lw_privs_2 : List (MethodName × Nat) := [(⟨"FewerLamps$Kinds", "asLamp", "(I)I"⟩, 3), (⟨"FewerLamps$Kinds", "asBroken", "(I)I"⟩, 3), (⟨"FewerLamps$Kinds", "asHarbour", "(I)I"⟩, 3), (⟨"FewerLamps$Kinds", "asAlley", "(I)I"⟩, 3), (⟨"FewerLamps$Kinds", "asBrides", "(I)I"⟩, 3), (⟨"FewerLampsModel", "reads", "()V"⟩, 29), (⟨"FewerLampsModel", "readLetters", "()V"⟩, 29), (⟨"FewerLampsModel", "readNumber", "()V"⟩, 29), (⟨"FewerLampsModel", "readLamp", "()Z"⟩, 29), (⟨"FewerLampsModel", "number", "(II)Z"⟩, 29), (⟨"FewerLampsModel", "readStreet", "()Z"⟩, 29), (⟨"FewerLampsModel", "isLamp", "(I)Z"⟩, 29), (⟨"FewerLampsModel", "beside", "(II)I"⟩, 29), (⟨"FewerLampsModel", "notes", "()V"⟩, 29), (⟨"FewerLampsModel", "looks", "(I)V"⟩, 29), (⟨"FewerLampsModel", "rings", "(I)I"⟩, 29)]
theorem lw_r2 : ∀ q ∈ lw_privs_2, lw_okq q := List.forall_mem_cons.mpr ⟨lw_p16, List.forall_mem_cons.mpr ⟨lw_p17, List.forall_mem_cons.mpr ⟨lw_p18, List.forall_mem_cons.mpr ⟨lw_p19, List.forall_mem_cons.mpr ⟨lw_p20, List.forall_mem_cons.mpr ⟨lw_p21, List.forall_mem_cons.mpr ⟨lw_p22, List.forall_mem_cons.mpr ⟨lw_p23, List.forall_mem_cons.mpr ⟨lw_p24, List.forall_mem_cons.mpr ⟨lw_p25, List.forall_mem_cons.mpr ⟨lw_p26, List.forall_mem_cons.mpr ⟨lw_p27, List.forall_mem_cons.mpr ⟨lw_p28, List.forall_mem_cons.mpr ⟨lw_p29, List.forall_mem_cons.mpr ⟨lw_p30, List.forall_mem_cons.mpr ⟨lw_p31, fun _ h => absurd h List.not_mem_nil⟩⟩⟩⟩⟩⟩⟩⟩⟩⟩⟩⟩⟩⟩⟩⟩
theorem lw_p32 : lw_okq (⟨"FewerLampsModel", "goesOn", "(II)I"⟩, 29) := ⟨⟨by decide +kernel, by decide +kernel⟩, List.mem_of_getElem? (i := 616) (by decide +kernel), List.mem_of_getElem? (i := 817) (by decide +kernel), List.mem_of_getElem? (i := 818) (by decide +kernel)⟩
theorem lw_p33 : lw_okq (⟨"FewerLampsModel", "rounds", "(I)V"⟩, 29) := ⟨⟨by decide +kernel, by decide +kernel⟩, List.mem_of_getElem? (i := 616) (by decide +kernel), List.mem_of_getElem? (i := 825) (by decide +kernel), List.mem_of_getElem? (i := 826) (by decide +kernel)⟩
theorem lw_p34 : lw_okq (⟨"FewerLampsModel", "isStand", "(I)Z"⟩, 29) := ⟨⟨by decide +kernel, by decide +kernel⟩, List.mem_of_getElem? (i := 616) (by decide +kernel), List.mem_of_getElem? (i := 837) (by decide +kernel), List.mem_of_getElem? (i := 838) (by decide +kernel)⟩
theorem lw_p35 : lw_okq (⟨"FewerLampsModel", "stays", "(III)Z"⟩, 29) := ⟨⟨by decide +kernel, by decide +kernel⟩, List.mem_of_getElem? (i := 616) (by decide +kernel), List.mem_of_getElem? (i := 850) (by decide +kernel), List.mem_of_getElem? (i := 851) (by decide +kernel)⟩
theorem lw_p36 : lw_okq (⟨"FewerLampsModel", "changes", "(II)I"⟩, 29) := ⟨⟨by decide +kernel, by decide +kernel⟩, List.mem_of_getElem? (i := 616) (by decide +kernel), List.mem_of_getElem? (i := 874) (by decide +kernel), List.mem_of_getElem? (i := 875) (by decide +kernel)⟩
def lw_privs_3 : List (MethodName × Nat) := [(⟨"FewerLampsModel", "goesOn", "(II)I"⟩, 29), (⟨"FewerLampsModel", "rounds", "(I)V"⟩, 29), (⟨"FewerLampsModel", "isStand", "(I)Z"⟩, 29), (⟨"FewerLampsModel", "stays", "(III)Z"⟩, 29), (⟨"FewerLampsModel", "changes", "(II)I"⟩, 29)]
theorem lw_r3 : ∀ q ∈ lw_privs_3, lw_okq q := List.forall_mem_cons.mpr ⟨lw_p32, List.forall_mem_cons.mpr ⟨lw_p33, List.forall_mem_cons.mpr ⟨lw_p34, List.forall_mem_cons.mpr ⟨lw_p35, List.forall_mem_cons.mpr ⟨lw_p36, fun _ h => absurd h List.not_mem_nil⟩⟩⟩⟩⟩
def lw_privs : List (MethodName × Nat) := lw_privs_1 ++ (lw_privs_2 ++ (lw_privs_3))
def lw_tbl : List Cond := k2_sels lw_privs ++ tables_1
theorem lw_privs_ok : ∀ q ∈ lw_privs, lw_okq q := by
  show ∀ q ∈ lw_privs_1 ++ (lw_privs_2 ++ (lw_privs_3)), lw_okq q
  exact List.forall_mem_append.mpr ⟨lw_r1, List.forall_mem_append.mpr ⟨lw_r2, lw_r3⟩⟩
-- ===== end of PART A; then your names; then what follows =====
def RX0 : String := "FewerLamps$Bellwork"
def TX0 : u_T := fun k => match k with
  | 0 => ("FewerLamps$Bellwork", "town", "LFewerLamps$Town;", true)
  | 1 => ("FewerLamps$Bellwork", "near", "[I", true)
  | 2 => ("FewerLamps$Bellwork", "made", "[I", true)
  | 3 => ("FewerLamps$Bellwork", "seen", "[I", true)
  | 4 => ("FewerLamps$Bellwork", "laid", "Z", false)
  | 5 => ("FewerLamps$Bellwork", "laidFog", "I", false)
  | 6 => ("FewerLamps$Bellwork", "lead", "I", false)
  | _ => ("FewerLamps$Bellwork", "length", "I", false)
def tyX0 : Nat → FieldType := fun k => match k with
  | 0 => .object "FewerLamps$Town"
  | 1 => .array .int
  | 2 => .array .int
  | 3 => .array .int
  | 4 => .boolean
  | 5 => .int
  | 6 => .int
  | _ => .int
abbrev wsX00 : List Cond := u_ws RX0 TX0 8
theorem nmX0 : ∀ a, a < 8 → ∀ b, b < 8 → a ≠ b → (TX0 a).2.1 ≠ (TX0 b).2.1 := by decide +kernel
theorem tyX0_ok : ∀ k, k < 8 → parseFieldDescriptor (TX0 k).2.2.1 = some (tyX0 k) := by decide +kernel
abbrev cX0_init : ByteArray := prog_2_method_1_code
def yX0_init : MethodName := ⟨RX0, "<init>", "(LFewerLamps$Town;)V"⟩
abbrev cX0_forget : ByteArray := prog_2_method_2_code
def yX0_forget : MethodName := ⟨RX0, "forget", "()V"⟩
abbrev cX0_lay : ByteArray := prog_2_method_3_code
def yX0_lay : MethodName := ⟨RX0, "lay", "(I)V"⟩
abbrev cX0_join : ByteArray := prog_2_method_4_code
def yX0_join : MethodName := ⟨RX0, "join", "(II)V"⟩
abbrev cX0_struck : ByteArray := prog_2_method_5_code
def yX0_struck : MethodName := ⟨RX0, "struck", "(I)I"⟩
abbrev cX0_strike : ByteArray := prog_2_method_6_code
def yX0_strike : MethodName := ⟨RX0, "strike", "(I)I"⟩
abbrev cX0_isOnBehind : ByteArray := prog_2_method_7_code
def yX0_isOnBehind : MethodName := ⟨RX0, "isOnBehind", "(II)Z"⟩
abbrev cX0_struckOften : ByteArray := prog_2_method_8_code
def yX0_struckOften : MethodName := ⟨RX0, "struckOften", "(II)I"⟩
abbrev cX0_findRound : ByteArray := prog_2_method_9_code
def yX0_findRound : MethodName := ⟨RX0, "findRound", "(I)V"⟩
abbrev cX0_countUnmade : ByteArray := prog_2_method_10_code
def yX0_countUnmade : MethodName := ⟨RX0, "countUnmade", "()I"⟩
abbrev cX0_isLitForEver : ByteArray := prog_2_method_11_code
def yX0_isLitForEver : MethodName := ⟨RX0, "isLitForEver", "(II)Z"⟩
def RX1 : String := "FewerLamps$Hands"
def TX1 : u_T := fun k => match k with
  | 0 => ("FewerLamps$Hands", "town", "LFewerLamps$Town;", true)
  | 1 => ("FewerLamps$Hands", "work", "LFewerLamps$Bellwork;", true)
  | 2 => ("FewerLamps$Hands", "size", "I", false)
  | 3 => ("FewerLamps$Hands", "many", "I", false)
  | 4 => ("FewerLamps$Hands", "least", "I", false)
  | _ => ("FewerLamps$Hands", "flicks", "[I", true)
def tyX1 : Nat → FieldType := fun k => match k with
  | 0 => .object "FewerLamps$Town"
  | 1 => .object "FewerLamps$Bellwork"
  | 2 => .int
  | 3 => .int
  | 4 => .int
  | _ => .array .int
abbrev wsX10 : List Cond := u_ws RX1 TX1 6
theorem nmX1 : ∀ a, a < 6 → ∀ b, b < 6 → a ≠ b → (TX1 a).2.1 ≠ (TX1 b).2.1 := by decide +kernel
theorem tyX1_ok : ∀ k, k < 6 → parseFieldDescriptor (TX1 k).2.2.1 = some (tyX1 k) := by decide +kernel
abbrev cX1_init : ByteArray := prog_3_method_1_code
def yX1_init : MethodName := ⟨RX1, "<init>", "(LFewerLamps$Town;LFewerLamps$Bellwork;)V"⟩
abbrev cX1_findNone : ByteArray := prog_3_method_2_code
def yX1_findNone : MethodName := ⟨RX1, "findNone", "()V"⟩
abbrev cX1_findLit : ByteArray := prog_3_method_3_code
def yX1_findLit : MethodName := ⟨RX1, "findLit", "(III)V"⟩
abbrev cX1_findWho : ByteArray := prog_3_method_4_code
def yX1_findWho : MethodName := ⟨RX1, "findWho", "(III)V"⟩
abbrev cX1_soonest : ByteArray := prog_3_method_5_code
def yX1_soonest : MethodName := ⟨RX1, "soonest", "(III)I"⟩
abbrev cX1_withRoads : ByteArray := prog_3_method_6_code
def yX1_withRoads : MethodName := ⟨RX1, "withRoads", "(I)I"⟩
abbrev cX1_countFlickers : ByteArray := prog_3_method_7_code
def yX1_countFlickers : MethodName := ⟨RX1, "countFlickers", "(II)V"⟩
abbrev cX1_mostFlickering : ByteArray := prog_3_method_8_code
def yX1_mostFlickering : MethodName := ⟨RX1, "mostFlickering", "()I"⟩
def RX2 : String := "FewerLamps$Kinds"
def TX2 : u_T := fun k => match k with
  | 0 => ("FewerLamps$Kinds", "town", "LFewerLamps$Town;", true)
  | 1 => ("FewerLamps$Kinds", "present", "LFewerLamps$Present;", true)
  | _ => ("FewerLamps$Kinds", "trace", "J", false)
def tyX2 : Nat → FieldType := fun k => match k with
  | 0 => .object "FewerLamps$Town"
  | 1 => .object "FewerLamps$Present"
  | _ => .long
abbrev wsX20 : List Cond := u_ws RX2 TX2 3
theorem nmX2 : ∀ a, a < 3 → ∀ b, b < 3 → a ≠ b → (TX2 a).2.1 ≠ (TX2 b).2.1 := by decide +kernel
theorem tyX2_ok : ∀ k, k < 3 → parseFieldDescriptor (TX2 k).2.2.1 = some (tyX2 k) := by decide +kernel
abbrev cX2_init : ByteArray := prog_4_method_1_code
def yX2_init : MethodName := ⟨RX2, "<init>", "(LFewerLamps$Town;LFewerLamps$Present;)V"⟩
abbrev cX2_markAs : ByteArray := prog_4_method_2_code
def yX2_markAs : MethodName := ⟨RX2, "markAs", "(II)I"⟩
abbrev cX2_asLamp : ByteArray := prog_4_method_3_code
def yX2_asLamp : MethodName := ⟨RX2, "asLamp", "(I)I"⟩
abbrev cX2_asCorner : ByteArray := prog_4_method_4_code
def yX2_asCorner : MethodName := ⟨RX2, "asCorner", "(I)I"⟩
abbrev cX2_asBroken : ByteArray := prog_4_method_5_code
def yX2_asBroken : MethodName := ⟨RX2, "asBroken", "(I)I"⟩
abbrev cX2_asHarbour : ByteArray := prog_4_method_6_code
def yX2_asHarbour : MethodName := ⟨RX2, "asHarbour", "(I)I"⟩
abbrev cX2_asAlley : ByteArray := prog_4_method_7_code
def yX2_asAlley : MethodName := ⟨RX2, "asAlley", "(I)I"⟩
abbrev cX2_asBrides : ByteArray := prog_4_method_8_code
def yX2_asBrides : MethodName := ⟨RX2, "asBrides", "(I)I"⟩
def RX3 : String := "FewerLamps$Present"
def TX3 : u_T := fun k => match k with
  | 0 => ("FewerLamps$Present", "bells", "I", false)
  | 1 => ("FewerLamps$Present", "stand", "I", false)
  | 2 => ("FewerLamps$Present", "turned", "I", false)
  | 3 => ("FewerLamps$Present", "fog", "I", false)
  | 4 => ("FewerLamps$Present", "known", "I", false)
  | _ => ("FewerLamps$Present", "past", "[I", true)
def tyX3 : Nat → FieldType := fun k => match k with
  | 0 => .int
  | 1 => .int
  | 2 => .int
  | 3 => .int
  | 4 => .int
  | _ => .array .int
abbrev wsX30 : List Cond := u_ws RX3 TX3 6
theorem nmX3 : ∀ a, a < 6 → ∀ b, b < 6 → a ≠ b → (TX3 a).2.1 ≠ (TX3 b).2.1 := by decide +kernel
theorem tyX3_ok : ∀ k, k < 6 → parseFieldDescriptor (TX3 k).2.2.1 = some (tyX3 k) := by decide +kernel
abbrev cX3_init : ByteArray := prog_5_method_1_code
def yX3_init : MethodName := ⟨RX3, "<init>", "()V"⟩
abbrev cX3_begin : ByteArray := prog_5_method_2_code
def yX3_begin : MethodName := ⟨RX3, "begin", "(I)V"⟩
abbrev cX3_remember : ByteArray := prog_5_method_3_code
def yX3_remember : MethodName := ⟨RX3, "remember", "()V"⟩
abbrev cX3_recall : ByteArray := prog_5_method_4_code
def yX3_recall : MethodName := ⟨RX3, "recall", "()V"⟩
abbrev cX3_take : ByteArray := prog_5_method_5_code
def yX3_take : MethodName := ⟨RX3, "take", "(LFewerLamps$Present;)V"⟩
def RX4 : String := "FewerLamps$Reader"
def TX4 : u_T := fun k => match k with
  | 0 => ("FewerLamps$Reader", "draft", "LFewerLamps$Town;", true)
  | 1 => ("FewerLamps$Reader", "place", "I", false)
  | 2 => ("FewerLamps$Reader", "text", "LFewerLamps$Text;", true)
  | 3 => ("FewerLamps$Reader", "reached", "I", false)
  | 4 => ("FewerLamps$Reader", "sort", "I", false)
  | _ => ("FewerLamps$Reader", "value", "I", false)
def tyX4 : Nat → FieldType := fun k => match k with
  | 0 => .object "FewerLamps$Town"
  | 1 => .int
  | 2 => .object "FewerLamps$Text"
  | 3 => .int
  | 4 => .int
  | _ => .int
abbrev wsX40 : List Cond := u_ws RX4 TX4 6
theorem nmX4 : ∀ a, a < 6 → ∀ b, b < 6 → a ≠ b → (TX4 a).2.1 ≠ (TX4 b).2.1 := by decide +kernel
theorem tyX4_ok : ∀ k, k < 6 → parseFieldDescriptor (TX4 k).2.2.1 = some (tyX4 k) := by decide +kernel
abbrev cX4_init : ByteArray := prog_6_method_1_code
def yX4_init : MethodName := ⟨RX4, "<init>", "(LFewerLamps$Text;)V"⟩
abbrev cX4_read : ByteArray := prog_6_method_2_code
def yX4_read : MethodName := ⟨RX4, "read", "()Z"⟩
abbrev cX4_readItem : ByteArray := prog_6_method_3_code
def yX4_readItem : MethodName := ⟨RX4, "readItem", "()Z"⟩
abbrev cX4_readLamp : ByteArray := prog_6_method_4_code
def yX4_readLamp : MethodName := ⟨RX4, "readLamp", "()Z"⟩
abbrev cX4_readStreet : ByteArray := prog_6_method_5_code
def yX4_readStreet : MethodName := ⟨RX4, "readStreet", "()Z"⟩
abbrev cX4_readNumber : ByteArray := prog_6_method_6_code
def yX4_readNumber : MethodName := ⟨RX4, "readNumber", "(I)Z"⟩
abbrev cX4_readSemicolon : ByteArray := prog_6_method_7_code
def yX4_readSemicolon : MethodName := ⟨RX4, "readSemicolon", "()Z"⟩
abbrev cX4_nextToken : ByteArray := prog_6_method_8_code
def yX4_nextToken : MethodName := ⟨RX4, "nextToken", "()V"⟩
abbrev cX4_takeLetters : ByteArray := prog_6_method_9_code
def yX4_takeLetters : MethodName := ⟨RX4, "takeLetters", "()V"⟩
abbrev cX4_takeDigits : ByteArray := prog_6_method_10_code
def yX4_takeDigits : MethodName := ⟨RX4, "takeDigits", "()V"⟩
abbrev cX4_isLetter : ByteArray := prog_6_method_11_code
def yX4_isLetter : MethodName := ⟨RX4, "isLetter", "(I)Z"⟩
abbrev cX4_isDigit : ByteArray := prog_6_method_12_code
def yX4_isDigit : MethodName := ⟨RX4, "isDigit", "(I)Z"⟩
def RX5 : String := "FewerLamps$Text"
def TX5 : u_T := fun k => match k with
  | 0 => ("FewerLamps$Text", "bytes", "[I", true)
  | _ => ("FewerLamps$Text", "length", "I", false)
def tyX5 : Nat → FieldType := fun k => match k with
  | 0 => .array .int
  | _ => .int
abbrev wsX50 : List Cond := u_ws RX5 TX5 2
theorem nmX5 : ∀ a, a < 2 → ∀ b, b < 2 → a ≠ b → (TX5 a).2.1 ≠ (TX5 b).2.1 := by decide +kernel
theorem tyX5_ok : ∀ k, k < 2 → parseFieldDescriptor (TX5 k).2.2.1 = some (tyX5 k) := by decide +kernel
abbrev cX5_init : ByteArray := prog_7_method_1_code
def yX5_init : MethodName := ⟨RX5, "<init>", "()V"⟩
abbrev cX5_add : ByteArray := prog_7_method_2_code
def yX5_add : MethodName := ⟨RX5, "add", "(I)Z"⟩
abbrev cX5_at : ByteArray := prog_7_method_3_code
def yX5_at : MethodName := ⟨RX5, "at", "(I)I"⟩
def RX6 : String := "FewerLamps$Town"
def TX6 : u_T := fun k => match k with
  | 0 => ("FewerLamps$Town", "lamps", "I", false)
  | 1 => ("FewerLamps$Town", "streets", "I", false)
  | 2 => ("FewerLamps$Town", "told", "I", false)
  | 3 => ("FewerLamps$Town", "rules", "[I", true)
  | 4 => ("FewerLamps$Town", "lesser", "[I", true)
  | 5 => ("FewerLamps$Town", "greater", "[I", true)
  | _ => ("FewerLamps$Town", "roads", "[I", true)
def tyX6 : Nat → FieldType := fun k => match k with
  | 0 => .int
  | 1 => .int
  | 2 => .int
  | 3 => .array .int
  | 4 => .array .int
  | 5 => .array .int
  | _ => .array .int
abbrev wsX60 : List Cond := u_ws RX6 TX6 7
theorem nmX6 : ∀ a, a < 7 → ∀ b, b < 7 → a ≠ b → (TX6 a).2.1 ≠ (TX6 b).2.1 := by decide +kernel
theorem tyX6_ok : ∀ k, k < 7 → parseFieldDescriptor (TX6 k).2.2.1 = some (tyX6 k) := by decide +kernel
abbrev cX6_init : ByteArray := prog_8_method_1_code
def yX6_init : MethodName := ⟨RX6, "<init>", "()V"⟩
abbrev cX6_isLamp : ByteArray := prog_8_method_2_code
def yX6_isLamp : MethodName := ⟨RX6, "isLamp", "(I)Z"⟩
abbrev cX6_isStreet : ByteArray := prog_8_method_3_code
def yX6_isStreet : MethodName := ⟨RX6, "isStreet", "(I)Z"⟩
abbrev cX6_isStand : ByteArray := prog_8_method_4_code
def yX6_isStand : MethodName := ⟨RX6, "isStand", "(I)Z"⟩
abbrev cX6_stands : ByteArray := prog_8_method_5_code
def yX6_stands : MethodName := ⟨RX6, "stands", "()I"⟩
abbrev cX6_isJoined : ByteArray := prog_8_method_6_code
def yX6_isJoined : MethodName := ⟨RX6, "isJoined", "(II)Z"⟩
abbrev cX6_empty : ByteArray := prog_8_method_7_code
def yX6_empty : MethodName := ⟨RX6, "empty", "()V"⟩
abbrev cX6_addLamp : ByteArray := prog_8_method_8_code
def yX6_addLamp : MethodName := ⟨RX6, "addLamp", "(II)V"⟩
abbrev cX6_addStreet : ByteArray := prog_8_method_9_code
def yX6_addStreet : MethodName := ⟨RX6, "addStreet", "(II)V"⟩
abbrev cX6_take : ByteArray := prog_8_method_10_code
def yX6_take : MethodName := ⟨RX6, "take", "(LFewerLamps$Town;)V"⟩
def RX7 : String := "FewerLamps"
def TX7 : u_T := fun k => match k with
  | 0 => ("FewerLamps", "text", "LFewerLamps$Text;", true)
  | 1 => ("FewerLamps", "reader", "LFewerLamps$Reader;", true)
  | 2 => ("FewerLamps", "town", "LFewerLamps$Town;", true)
  | 3 => ("FewerLamps", "present", "LFewerLamps$Present;", true)
  | 4 => ("FewerLamps", "images", "[LFewerLamps$Present;", true)
  | 5 => ("FewerLamps", "keptImages", "I", false)
  | 6 => ("FewerLamps", "work", "LFewerLamps$Bellwork;", true)
  | 7 => ("FewerLamps", "trial", "LFewerLamps$Bellwork;", true)
  | 8 => ("FewerLamps", "hands", "LFewerLamps$Hands;", true)
  | _ => ("FewerLamps", "kinds", "LFewerLamps$Kinds;", true)
def tyX7 : Nat → FieldType := fun k => match k with
  | 0 => .object "FewerLamps$Text"
  | 1 => .object "FewerLamps$Reader"
  | 2 => .object "FewerLamps$Town"
  | 3 => .object "FewerLamps$Present"
  | 4 => .array (.object "FewerLamps$Present")
  | 5 => .int
  | 6 => .object "FewerLamps$Bellwork"
  | 7 => .object "FewerLamps$Bellwork"
  | 8 => .object "FewerLamps$Hands"
  | _ => .object "FewerLamps$Kinds"
abbrev wsX70 : List Cond := u_ws RX7 TX7 10
theorem nmX7 : ∀ a, a < 10 → ∀ b, b < 10 → a ≠ b → (TX7 a).2.1 ≠ (TX7 b).2.1 := by decide +kernel
theorem tyX7_ok : ∀ k, k < 10 → parseFieldDescriptor (TX7 k).2.2.1 = some (tyX7 k) := by decide +kernel
abbrev cX7_init : ByteArray := prog_1_method_1_code
def yX7_init : MethodName := ⟨RX7, "<init>", "()V"⟩
abbrev cX7_type : ByteArray := prog_1_method_2_code
def yX7_type : MethodName := ⟨RX7, "type", "(I)I"⟩
abbrev cX7_clear : ByteArray := prog_1_method_3_code
def yX7_clear : MethodName := ⟨RX7, "clear", "()I"⟩
abbrev cX7_town : ByteArray := prog_1_method_4_code
def yX7_town : MethodName := ⟨RX7, "town", "()I"⟩
abbrev cX7_lamp : ByteArray := prog_1_method_5_code
def yX7_lamp : MethodName := ⟨RX7, "lamp", "(II)I"⟩
abbrev cX7_street : ByteArray := prog_1_method_6_code
def yX7_street : MethodName := ⟨RX7, "street", "(II)I"⟩
abbrev cX7_bell : ByteArray := prog_1_method_7_code
def yX7_bell : MethodName := ⟨RX7, "bell", "()I"⟩
abbrev cX7_turn : ByteArray := prog_1_method_8_code
def yX7_turn : MethodName := ⟨RX7, "turn", "(I)I"⟩
abbrev cX7_fog : ByteArray := prog_1_method_9_code
def yX7_fog : MethodName := ⟨RX7, "fog", "(II)I"⟩
abbrev cX7_undo : ByteArray := prog_1_method_10_code
def yX7_undo : MethodName := ⟨RX7, "undo", "()I"⟩
abbrev cX7_now : ByteArray := prog_1_method_11_code
def yX7_now : MethodName := ⟨RX7, "now", "(I)I"⟩
abbrev cX7_after : ByteArray := prog_1_method_12_code
def yX7_after : MethodName := ⟨RX7, "after", "(I)I"⟩
abbrev cX7_round : ByteArray := prog_1_method_13_code
def yX7_round : MethodName := ⟨RX7, "round", "(I)I"⟩
abbrev cX7_again : ByteArray := prog_1_method_14_code
def yX7_again : MethodName := ⟨RX7, "again", "()I"⟩
abbrev cX7_ahead : ByteArray := prog_1_method_15_code
def yX7_ahead : MethodName := ⟨RX7, "ahead", "(II)I"⟩
abbrev cX7_eden : ByteArray := prog_1_method_16_code
def yX7_eden : MethodName := ⟨RX7, "eden", "()I"⟩
abbrev cX7_lit : ByteArray := prog_1_method_17_code
def yX7_lit : MethodName := ⟨RX7, "lit", "(III)I"⟩
abbrev cX7_who : ByteArray := prog_1_method_18_code
def yX7_who : MethodName := ⟨RX7, "who", "(III)I"⟩
abbrev cX7_thief : ByteArray := prog_1_method_19_code
def yX7_thief : MethodName := ⟨RX7, "thief", "(II)I"⟩
abbrev cX7_still : ByteArray := prog_1_method_20_code
def yX7_still : MethodName := ⟨RX7, "still", "(I)I"⟩
abbrev cX7_mist : ByteArray := prog_1_method_21_code
def yX7_mist : MethodName := ⟨RX7, "mist", "(I)I"⟩
abbrev cX7_flickers : ByteArray := prog_1_method_22_code
def yX7_flickers : MethodName := ⟨RX7, "flickers", "(II)I"⟩
abbrev cX7_mark : ByteArray := prog_1_method_23_code
def yX7_mark : MethodName := ⟨RX7, "mark", "(II)I"⟩
abbrev cX7_keep : ByteArray := prog_1_method_24_code
def yX7_keep : MethodName := ⟨RX7, "keep", "(I)I"⟩
abbrev cX7_back : ByteArray := prog_1_method_25_code
def yX7_back : MethodName := ⟨RX7, "back", "(I)I"⟩
abbrev cX7_count : ByteArray := prog_1_method_26_code
def yX7_count : MethodName := ⟨RX7, "count", "(I)I"⟩
abbrev cX7_trace : ByteArray := prog_1_method_27_code
def yX7_trace : MethodName := ⟨RX7, "trace", "()J"⟩
abbrev cX7_isSeen : ByteArray := prog_1_method_28_code
def yX7_isSeen : MethodName := ⟨RX7, "isSeen", "(I)Z"⟩
abbrev cX7_workNow : ByteArray := prog_1_method_29_code
def yX7_workNow : MethodName := ⟨RX7, "workNow", "()LFewerLamps$Bellwork;"⟩
abbrev cX7_stillsBy : ByteArray := prog_1_method_30_code
def yX7_stillsBy : MethodName := ⟨RX7, "stillsBy", "(II)Z"⟩
abbrev cX7_standsInFog : ByteArray := prog_1_method_31_code
def yX7_standsInFog : MethodName := ⟨RX7, "standsInFog", "(I)I"⟩
def RX8 : String := "FewerLampsModel"
def TX8 : u_T := fun k => match k with
  | 0 => ("FewerLampsModel", "text", "[I", true)
  | 1 => ("FewerLampsModel", "size", "I", false)
  | 2 => ("FewerLampsModel", "at", "I", false)
  | 3 => ("FewerLampsModel", "begin", "I", false)
  | 4 => ("FewerLampsModel", "token", "I", false)
  | 5 => ("FewerLampsModel", "told", "I", false)
  | 6 => ("FewerLampsModel", "readLamps", "I", false)
  | 7 => ("FewerLampsModel", "readStreets", "I", false)
  | 8 => ("FewerLampsModel", "readStand", "I", false)
  | 9 => ("FewerLampsModel", "readRules", "[I", true)
  | 10 => ("FewerLampsModel", "readA", "[I", true)
  | 11 => ("FewerLampsModel", "readB", "[I", true)
  | 12 => ("FewerLampsModel", "lamps", "I", false)
  | 13 => ("FewerLampsModel", "streets", "I", false)
  | 14 => ("FewerLampsModel", "rules", "[I", true)
  | 15 => ("FewerLampsModel", "ones", "[I", true)
  | 16 => ("FewerLampsModel", "others", "[I", true)
  | 17 => ("FewerLampsModel", "bells", "I", false)
  | 18 => ("FewerLampsModel", "stand", "I", false)
  | 19 => ("FewerLampsModel", "turned", "I", false)
  | 20 => ("FewerLampsModel", "fog", "I", false)
  | 21 => ("FewerLampsModel", "near", "[I", true)
  | 22 => ("FewerLampsModel", "undone", "[I", true)
  | 23 => ("FewerLampsModel", "undos", "I", false)
  | 24 => ("FewerLampsModel", "tail", "I", false)
  | 25 => ("FewerLampsModel", "ring", "I", false)
  | 26 => ("FewerLampsModel", "when", "[I", true)
  | 27 => ("FewerLampsModel", "trace", "J", false)
  | _ => ("FewerLampsModel", "kept", "[I", true)
def tyX8 : Nat → FieldType := fun k => match k with
  | 0 => .array .int
  | 1 => .int
  | 2 => .int
  | 3 => .int
  | 4 => .int
  | 5 => .int
  | 6 => .int
  | 7 => .int
  | 8 => .int
  | 9 => .array .int
  | 10 => .array .int
  | 11 => .array .int
  | 12 => .int
  | 13 => .int
  | 14 => .array .int
  | 15 => .array .int
  | 16 => .array .int
  | 17 => .int
  | 18 => .int
  | 19 => .int
  | 20 => .int
  | 21 => .array .int
  | 22 => .array .int
  | 23 => .int
  | 24 => .int
  | 25 => .int
  | 26 => .array .int
  | 27 => .long
  | _ => .array .int
abbrev wsX80 : List Cond := u_ws RX8 TX8 29
theorem nmX8 : ∀ a, a < 29 → ∀ b, b < 29 → a ≠ b → (TX8 a).2.1 ≠ (TX8 b).2.1 := by decide +kernel
theorem tyX8_ok : ∀ k, k < 29 → parseFieldDescriptor (TX8 k).2.2.1 = some (tyX8 k) := by decide +kernel
abbrev cX8_in : ByteArray := prog_10_method_2_code
def yX8_in : MethodName := ⟨RX8, "in", "(JJJ)Z"⟩
abbrev cX8_init : ByteArray := prog_10_method_3_code
def yX8_init : MethodName := ⟨RX8, "<init>", "()V"⟩
abbrev cX8_type : ByteArray := prog_10_method_4_code
def yX8_type : MethodName := ⟨RX8, "type", "(I)I"⟩
abbrev cX8_clear : ByteArray := prog_10_method_5_code
def yX8_clear : MethodName := ⟨RX8, "clear", "()I"⟩
abbrev cX8_isLetter : ByteArray := prog_10_method_6_code
def yX8_isLetter : MethodName := ⟨RX8, "isLetter", "(I)Z"⟩
abbrev cX8_isFigure : ByteArray := prog_10_method_7_code
def yX8_isFigure : MethodName := ⟨RX8, "isFigure", "(I)Z"⟩
abbrev cX8_readLetters : ByteArray := prog_10_method_8_code
def yX8_readLetters : MethodName := ⟨RX8, "readLetters", "()V"⟩
abbrev cX8_readNumber : ByteArray := prog_10_method_9_code
def yX8_readNumber : MethodName := ⟨RX8, "readNumber", "()V"⟩
abbrev cX8_reads : ByteArray := prog_10_method_10_code
def yX8_reads : MethodName := ⟨RX8, "reads", "()V"⟩
abbrev cX8_number : ByteArray := prog_10_method_11_code
def yX8_number : MethodName := ⟨RX8, "number", "(II)Z"⟩
abbrev cX8_readLamp : ByteArray := prog_10_method_12_code
def yX8_readLamp : MethodName := ⟨RX8, "readLamp", "()Z"⟩
abbrev cX8_readStreet : ByteArray := prog_10_method_13_code
def yX8_readStreet : MethodName := ⟨RX8, "readStreet", "()Z"⟩
abbrev cX8_town : ByteArray := prog_10_method_14_code
def yX8_town : MethodName := ⟨RX8, "town", "()I"⟩
abbrev cX8_isLamp : ByteArray := prog_10_method_15_code
def yX8_isLamp : MethodName := ⟨RX8, "isLamp", "(I)Z"⟩
abbrev cX8_isStand : ByteArray := prog_10_method_16_code
def yX8_isStand : MethodName := ⟨RX8, "isStand", "(I)Z"⟩
abbrev cX8_many : ByteArray := prog_10_method_17_code
def yX8_many : MethodName := ⟨RX8, "many", "(I)I"⟩
abbrev cX8_beside : ByteArray := prog_10_method_18_code
def yX8_beside : MethodName := ⟨RX8, "beside", "(II)I"⟩
abbrev cX8_lamp : ByteArray := prog_10_method_19_code
def yX8_lamp : MethodName := ⟨RX8, "lamp", "(II)I"⟩
abbrev cX8_street : ByteArray := prog_10_method_20_code
def yX8_street : MethodName := ⟨RX8, "street", "(II)I"⟩
abbrev cX8_looks : ByteArray := prog_10_method_21_code
def yX8_looks : MethodName := ⟨RX8, "looks", "(I)V"⟩
abbrev cX8_rings : ByteArray := prog_10_method_22_code
def yX8_rings : MethodName := ⟨RX8, "rings", "(I)I"⟩
abbrev cX8_notes : ByteArray := prog_10_method_23_code
def yX8_notes : MethodName := ⟨RX8, "notes", "()V"⟩
abbrev cX8_bell : ByteArray := prog_10_method_24_code
def yX8_bell : MethodName := ⟨RX8, "bell", "()I"⟩
abbrev cX8_turn : ByteArray := prog_10_method_25_code
def yX8_turn : MethodName := ⟨RX8, "turn", "(I)I"⟩
abbrev cX8_fog : ByteArray := prog_10_method_26_code
def yX8_fog : MethodName := ⟨RX8, "fog", "(II)I"⟩
abbrev cX8_undo : ByteArray := prog_10_method_27_code
def yX8_undo : MethodName := ⟨RX8, "undo", "()I"⟩
abbrev cX8_now : ByteArray := prog_10_method_28_code
def yX8_now : MethodName := ⟨RX8, "now", "(I)I"⟩
abbrev cX8_goesOn : ByteArray := prog_10_method_29_code
def yX8_goesOn : MethodName := ⟨RX8, "goesOn", "(II)I"⟩
abbrev cX8_after : ByteArray := prog_10_method_30_code
def yX8_after : MethodName := ⟨RX8, "after", "(I)I"⟩
abbrev cX8_rounds : ByteArray := prog_10_method_31_code
def yX8_rounds : MethodName := ⟨RX8, "rounds", "(I)V"⟩
abbrev cX8_round : ByteArray := prog_10_method_32_code
def yX8_round : MethodName := ⟨RX8, "round", "(I)I"⟩
abbrev cX8_again : ByteArray := prog_10_method_33_code
def yX8_again : MethodName := ⟨RX8, "again", "()I"⟩
abbrev cX8_ahead : ByteArray := prog_10_method_34_code
def yX8_ahead : MethodName := ⟨RX8, "ahead", "(II)I"⟩
abbrev cX8_eden : ByteArray := prog_10_method_35_code
def yX8_eden : MethodName := ⟨RX8, "eden", "()I"⟩
abbrev cX8_stays : ByteArray := prog_10_method_36_code
def yX8_stays : MethodName := ⟨RX8, "stays", "(III)Z"⟩
abbrev cX8_lit : ByteArray := prog_10_method_37_code
def yX8_lit : MethodName := ⟨RX8, "lit", "(III)I"⟩
abbrev cX8_who : ByteArray := prog_10_method_38_code
def yX8_who : MethodName := ⟨RX8, "who", "(III)I"⟩
abbrev cX8_thief : ByteArray := prog_10_method_39_code
def yX8_thief : MethodName := ⟨RX8, "thief", "(II)I"⟩
abbrev cX8_still : ByteArray := prog_10_method_40_code
def yX8_still : MethodName := ⟨RX8, "still", "(I)I"⟩
abbrev cX8_mist : ByteArray := prog_10_method_41_code
def yX8_mist : MethodName := ⟨RX8, "mist", "(I)I"⟩
abbrev cX8_changes : ByteArray := prog_10_method_42_code
def yX8_changes : MethodName := ⟨RX8, "changes", "(II)I"⟩
abbrev cX8_flickers : ByteArray := prog_10_method_43_code
def yX8_flickers : MethodName := ⟨RX8, "flickers", "(II)I"⟩
abbrev cX8_mark : ByteArray := prog_10_method_44_code
def yX8_mark : MethodName := ⟨RX8, "mark", "(II)I"⟩
abbrev cX8_trace : ByteArray := prog_10_method_45_code
def yX8_trace : MethodName := ⟨RX8, "trace", "()J"⟩
abbrev cX8_keep : ByteArray := prog_10_method_46_code
def yX8_keep : MethodName := ⟨RX8, "keep", "(I)I"⟩
abbrev cX8_back : ByteArray := prog_10_method_47_code
def yX8_back : MethodName := ⟨RX8, "back", "(I)I"⟩
abbrev cX8_count : ByteArray := prog_10_method_48_code
def yX8_count : MethodName := ⟨RX8, "count", "(I)I"⟩
def RJ6 : String := "java/lang/Integer"
def TJ6 : u_T := fun k => match k with
  | _ => ("", "", "", false)
def tyJ6 : Nat → FieldType := fun k => match k with
  | _ => .int
abbrev wsJ60 : List Cond := u_ws RJ6 TJ6 0
theorem nmJ6 : ∀ a, a < 0 → ∀ b, b < 0 → a ≠ b → (TJ6 a).2.1 ≠ (TJ6 b).2.1 := by decide +kernel
theorem tyJ6_ok : ∀ k, k < 0 → parseFieldDescriptor (TJ6 k).2.2.1 = some (tyJ6 k) := by decide +kernel
abbrev cJ6_bitCount_0f7a4 : ByteArray := prog_11_method_49_code
def yJ6_bitCount_0f7a4 : MethodName := ⟨RJ6, "bitCount", "(I)I"⟩
def RJ9 : String := "java/lang/Math"
def TJ9 : u_T := fun k => match k with
  | _ => ("", "", "", false)
def tyJ9 : Nat → FieldType := fun k => match k with
  | _ => .int
abbrev wsJ90 : List Cond := u_ws RJ9 TJ9 0
theorem nmJ9 : ∀ a, a < 0 → ∀ b, b < 0 → a ≠ b → (TJ9 a).2.1 ≠ (TJ9 b).2.1 := by decide +kernel
theorem tyJ9_ok : ∀ k, k < 0 → parseFieldDescriptor (TJ9 k).2.2.1 = some (tyJ9 k) := by decide +kernel
abbrev cJ9_max_7cf53 : ByteArray := prog_12_method_65_code
def yJ9_max_7cf53 : MethodName := ⟨RJ9, "max", "(II)I"⟩
abbrev cJ9_min_7cf53 : ByteArray := prog_12_method_69_code
def yJ9_min_7cf53 : MethodName := ⟨RJ9, "min", "(II)I"⟩
def RJ10 : String := "java/lang/System"
def TJ10 : u_T := fun k => match k with
  | _ => ("", "", "", false)
def tyJ10 : Nat → FieldType := fun k => match k with
  | _ => .int
abbrev wsJ100 : List Cond := u_ws RJ10 TJ10 0
theorem nmJ10 : ∀ a, a < 0 → ∀ b, b < 0 → a ≠ b → (TJ10 a).2.1 ≠ (TJ10 b).2.1 := by decide +kernel
theorem tyJ10_ok : ∀ k, k < 0 → parseFieldDescriptor (TJ10 k).2.2.1 = some (tyJ10 k) := by decide +kernel
def RJ7 : String := "java/util/Arrays"
def TJ7 : u_T := fun k => match k with
  | _ => ("", "", "", false)
def tyJ7 : Nat → FieldType := fun k => match k with
  | _ => .int
abbrev wsJ70 : List Cond := u_ws RJ7 TJ7 0
theorem nmJ7 : ∀ a, a < 0 → ∀ b, b < 0 → a ≠ b → (TJ7 a).2.1 ≠ (TJ7 b).2.1 := by decide +kernel
theorem tyJ7_ok : ∀ k, k < 0 → parseFieldDescriptor (TJ7 k).2.2.1 = some (tyJ7 k) := by decide +kernel
abbrev cJ7_fill_53178 : ByteArray := prog_14_method_103_code
def yJ7_fill_53178 : MethodName := ⟨RJ7, "fill", "([II)V"⟩
def RL : String := "FewerLampsLaw"
abbrev cL_law : ByteArray := code
def yL_law : MethodName := ⟨RL, "law", "([I)Z"⟩
set_option maxRecDepth 20000 in
abbrev vwCl : List vw_C := [(RX0, TX0, 8), (RX1, TX1, 6), (RX2, TX2, 3), (RX3, TX3, 6), (RX4, TX4, 6), (RX5, TX5, 2), (RX6, TX6, 7), (RX7, TX7, 10), (RX8, TX8, 29)]
/-- the words of the tables that every state behind keeps -/
def TB : List Cond := lw_tbl.filter goodWord
theorem tb_mem {w : Cond} (h : w ∈ lw_tbl) (g : goodWord w = true) : w ∈ TB := List.mem_filter.mpr ⟨h, g⟩
theorem tb_in {w : Cond} (h : w ∈ TB) : w ∈ lw_tbl := (List.mem_filter.mp h).1
theorem tb_good {w : Cond} (h : w ∈ TB) : (w.onTables && w.keeps) = true ∨ ∃ ty, w = .arrayClass ty := good_of_word (List.mem_filter.mp h).2
theorem tw_0 : Cond.selects "FewerLamps$Reader" ⟨"FewerLamps$Reader", "nextToken", "()V"⟩ ⟨"FewerLamps$Reader", "nextToken", "()V"⟩ ∈ TB := tb_mem (List.mem_append_left _ (List.mem_of_getElem? (i := 0) rfl)) rfl
theorem tw_1 : Cond.selects "FewerLamps$Reader" ⟨"FewerLamps$Reader", "takeLetters", "()V"⟩ ⟨"FewerLamps$Reader", "takeLetters", "()V"⟩ ∈ TB := tb_mem (List.mem_append_left _ (List.mem_of_getElem? (i := 1) rfl)) rfl
theorem tw_2 : Cond.selects "FewerLamps$Reader" ⟨"FewerLamps$Reader", "takeDigits", "()V"⟩ ⟨"FewerLamps$Reader", "takeDigits", "()V"⟩ ∈ TB := tb_mem (List.mem_append_left _ (List.mem_of_getElem? (i := 2) rfl)) rfl
theorem tw_3 : Cond.selects "FewerLamps$Reader" ⟨"FewerLamps$Reader", "readItem", "()Z"⟩ ⟨"FewerLamps$Reader", "readItem", "()Z"⟩ ∈ TB := tb_mem (List.mem_append_left _ (List.mem_of_getElem? (i := 3) rfl)) rfl
theorem tw_4 : Cond.selects "FewerLamps$Reader" ⟨"FewerLamps$Reader", "readLamp", "()Z"⟩ ⟨"FewerLamps$Reader", "readLamp", "()Z"⟩ ∈ TB := tb_mem (List.mem_append_left _ (List.mem_of_getElem? (i := 4) rfl)) rfl
theorem tw_5 : Cond.selects "FewerLamps$Reader" ⟨"FewerLamps$Reader", "readNumber", "(I)Z"⟩ ⟨"FewerLamps$Reader", "readNumber", "(I)Z"⟩ ∈ TB := tb_mem (List.mem_append_left _ (List.mem_of_getElem? (i := 5) rfl)) rfl
theorem tw_6 : Cond.selects "FewerLamps$Reader" ⟨"FewerLamps$Reader", "readSemicolon", "()Z"⟩ ⟨"FewerLamps$Reader", "readSemicolon", "()Z"⟩ ∈ TB := tb_mem (List.mem_append_left _ (List.mem_of_getElem? (i := 6) rfl)) rfl
theorem tw_7 : Cond.selects "FewerLamps$Reader" ⟨"FewerLamps$Reader", "readStreet", "()Z"⟩ ⟨"FewerLamps$Reader", "readStreet", "()Z"⟩ ∈ TB := tb_mem (List.mem_append_left _ (List.mem_of_getElem? (i := 7) rfl)) rfl
theorem tw_8 : Cond.selects "FewerLamps" ⟨"FewerLamps", "workNow", "()LFewerLamps$Bellwork;"⟩ ⟨"FewerLamps", "workNow", "()LFewerLamps$Bellwork;"⟩ ∈ TB := tb_mem (List.mem_append_left _ (List.mem_of_getElem? (i := 8) rfl)) rfl
theorem tw_9 : Cond.selects "FewerLamps$Bellwork" ⟨"FewerLamps$Bellwork", "strike", "(I)I"⟩ ⟨"FewerLamps$Bellwork", "strike", "(I)I"⟩ ∈ TB := tb_mem (List.mem_append_left _ (List.mem_of_getElem? (i := 9) rfl)) rfl
theorem tw_10 : Cond.selects "FewerLamps$Bellwork" ⟨"FewerLamps$Bellwork", "isOnBehind", "(II)Z"⟩ ⟨"FewerLamps$Bellwork", "isOnBehind", "(II)Z"⟩ ∈ TB := tb_mem (List.mem_append_left _ (List.mem_of_getElem? (i := 10) rfl)) rfl
theorem tw_11 : Cond.selects "FewerLamps$Hands" ⟨"FewerLamps$Hands", "findNone", "()V"⟩ ⟨"FewerLamps$Hands", "findNone", "()V"⟩ ∈ TB := tb_mem (List.mem_append_left _ (List.mem_of_getElem? (i := 11) rfl)) rfl
theorem tw_12 : Cond.selects "FewerLamps$Hands" ⟨"FewerLamps$Hands", "withRoads", "(I)I"⟩ ⟨"FewerLamps$Hands", "withRoads", "(I)I"⟩ ∈ TB := tb_mem (List.mem_append_left _ (List.mem_of_getElem? (i := 12) rfl)) rfl
theorem tw_13 : Cond.selects "FewerLamps" ⟨"FewerLamps", "stillsBy", "(II)Z"⟩ ⟨"FewerLamps", "stillsBy", "(II)Z"⟩ ∈ TB := tb_mem (List.mem_append_left _ (List.mem_of_getElem? (i := 13) rfl)) rfl
theorem tw_14 : Cond.selects "FewerLamps" ⟨"FewerLamps", "standsInFog", "(I)I"⟩ ⟨"FewerLamps", "standsInFog", "(I)I"⟩ ∈ TB := tb_mem (List.mem_append_left _ (List.mem_of_getElem? (i := 14) rfl)) rfl
theorem tw_15 : Cond.selects "FewerLamps$Kinds" ⟨"FewerLamps$Kinds", "asCorner", "(I)I"⟩ ⟨"FewerLamps$Kinds", "asCorner", "(I)I"⟩ ∈ TB := tb_mem (List.mem_append_left _ (List.mem_of_getElem? (i := 15) rfl)) rfl
theorem tw_16 : Cond.selects "FewerLamps$Kinds" ⟨"FewerLamps$Kinds", "asLamp", "(I)I"⟩ ⟨"FewerLamps$Kinds", "asLamp", "(I)I"⟩ ∈ TB := tb_mem (List.mem_append_left _ (List.mem_of_getElem? (i := 16) rfl)) rfl
theorem tw_17 : Cond.selects "FewerLamps$Kinds" ⟨"FewerLamps$Kinds", "asBroken", "(I)I"⟩ ⟨"FewerLamps$Kinds", "asBroken", "(I)I"⟩ ∈ TB := tb_mem (List.mem_append_left _ (List.mem_of_getElem? (i := 17) rfl)) rfl
theorem tw_18 : Cond.selects "FewerLamps$Kinds" ⟨"FewerLamps$Kinds", "asHarbour", "(I)I"⟩ ⟨"FewerLamps$Kinds", "asHarbour", "(I)I"⟩ ∈ TB := tb_mem (List.mem_append_left _ (List.mem_of_getElem? (i := 18) rfl)) rfl
theorem tw_19 : Cond.selects "FewerLamps$Kinds" ⟨"FewerLamps$Kinds", "asAlley", "(I)I"⟩ ⟨"FewerLamps$Kinds", "asAlley", "(I)I"⟩ ∈ TB := tb_mem (List.mem_append_left _ (List.mem_of_getElem? (i := 19) rfl)) rfl
theorem tw_20 : Cond.selects "FewerLamps$Kinds" ⟨"FewerLamps$Kinds", "asBrides", "(I)I"⟩ ⟨"FewerLamps$Kinds", "asBrides", "(I)I"⟩ ∈ TB := tb_mem (List.mem_append_left _ (List.mem_of_getElem? (i := 20) rfl)) rfl
theorem tw_21 : Cond.selects "FewerLampsModel" ⟨"FewerLampsModel", "reads", "()V"⟩ ⟨"FewerLampsModel", "reads", "()V"⟩ ∈ TB := tb_mem (List.mem_append_left _ (List.mem_of_getElem? (i := 21) rfl)) rfl
theorem tw_22 : Cond.selects "FewerLampsModel" ⟨"FewerLampsModel", "readLetters", "()V"⟩ ⟨"FewerLampsModel", "readLetters", "()V"⟩ ∈ TB := tb_mem (List.mem_append_left _ (List.mem_of_getElem? (i := 22) rfl)) rfl
theorem tw_23 : Cond.selects "FewerLampsModel" ⟨"FewerLampsModel", "readNumber", "()V"⟩ ⟨"FewerLampsModel", "readNumber", "()V"⟩ ∈ TB := tb_mem (List.mem_append_left _ (List.mem_of_getElem? (i := 23) rfl)) rfl
theorem tw_24 : Cond.selects "FewerLampsModel" ⟨"FewerLampsModel", "readLamp", "()Z"⟩ ⟨"FewerLampsModel", "readLamp", "()Z"⟩ ∈ TB := tb_mem (List.mem_append_left _ (List.mem_of_getElem? (i := 24) rfl)) rfl
theorem tw_25 : Cond.selects "FewerLampsModel" ⟨"FewerLampsModel", "number", "(II)Z"⟩ ⟨"FewerLampsModel", "number", "(II)Z"⟩ ∈ TB := tb_mem (List.mem_append_left _ (List.mem_of_getElem? (i := 25) rfl)) rfl
theorem tw_26 : Cond.selects "FewerLampsModel" ⟨"FewerLampsModel", "readStreet", "()Z"⟩ ⟨"FewerLampsModel", "readStreet", "()Z"⟩ ∈ TB := tb_mem (List.mem_append_left _ (List.mem_of_getElem? (i := 26) rfl)) rfl
theorem tw_27 : Cond.selects "FewerLampsModel" ⟨"FewerLampsModel", "isLamp", "(I)Z"⟩ ⟨"FewerLampsModel", "isLamp", "(I)Z"⟩ ∈ TB := tb_mem (List.mem_append_left _ (List.mem_of_getElem? (i := 27) rfl)) rfl
theorem tw_28 : Cond.selects "FewerLampsModel" ⟨"FewerLampsModel", "beside", "(II)I"⟩ ⟨"FewerLampsModel", "beside", "(II)I"⟩ ∈ TB := tb_mem (List.mem_append_left _ (List.mem_of_getElem? (i := 28) rfl)) rfl
theorem tw_29 : Cond.selects "FewerLampsModel" ⟨"FewerLampsModel", "notes", "()V"⟩ ⟨"FewerLampsModel", "notes", "()V"⟩ ∈ TB := tb_mem (List.mem_append_left _ (List.mem_of_getElem? (i := 29) rfl)) rfl
theorem tw_30 : Cond.selects "FewerLampsModel" ⟨"FewerLampsModel", "looks", "(I)V"⟩ ⟨"FewerLampsModel", "looks", "(I)V"⟩ ∈ TB := tb_mem (List.mem_append_left _ (List.mem_of_getElem? (i := 30) rfl)) rfl
theorem tw_31 : Cond.selects "FewerLampsModel" ⟨"FewerLampsModel", "rings", "(I)I"⟩ ⟨"FewerLampsModel", "rings", "(I)I"⟩ ∈ TB := tb_mem (List.mem_append_left _ (List.mem_of_getElem? (i := 31) rfl)) rfl
theorem tw_32 : Cond.selects "FewerLampsModel" ⟨"FewerLampsModel", "goesOn", "(II)I"⟩ ⟨"FewerLampsModel", "goesOn", "(II)I"⟩ ∈ TB := tb_mem (List.mem_append_left _ (List.mem_of_getElem? (i := 32) rfl)) rfl
theorem tw_33 : Cond.selects "FewerLampsModel" ⟨"FewerLampsModel", "rounds", "(I)V"⟩ ⟨"FewerLampsModel", "rounds", "(I)V"⟩ ∈ TB := tb_mem (List.mem_append_left _ (List.mem_of_getElem? (i := 33) rfl)) rfl
theorem tw_34 : Cond.selects "FewerLampsModel" ⟨"FewerLampsModel", "isStand", "(I)Z"⟩ ⟨"FewerLampsModel", "isStand", "(I)Z"⟩ ∈ TB := tb_mem (List.mem_append_left _ (List.mem_of_getElem? (i := 34) rfl)) rfl
theorem tw_35 : Cond.selects "FewerLampsModel" ⟨"FewerLampsModel", "stays", "(III)Z"⟩ ⟨"FewerLampsModel", "stays", "(III)Z"⟩ ∈ TB := tb_mem (List.mem_append_left _ (List.mem_of_getElem? (i := 35) rfl)) rfl
theorem tw_36 : Cond.selects "FewerLampsModel" ⟨"FewerLampsModel", "changes", "(II)I"⟩ ⟨"FewerLampsModel", "changes", "(II)I"⟩ ∈ TB := tb_mem (List.mem_append_left _ (List.mem_of_getElem? (i := 36) rfl)) rfl
theorem tw_37 : Cond.initialized "FewerLampsLaw" ∈ TB := tb_mem (List.mem_append_right _ (List.mem_append_left _ (List.mem_of_getElem? (i := 0) rfl))) rfl
theorem tw_38 : Cond.initialized "FewerLamps" ∈ TB := tb_mem (List.mem_append_right _ (List.mem_append_left _ (List.mem_of_getElem? (i := 1) rfl))) rfl
theorem tw_39 : Cond.initialized "FewerLamps$Text" ∈ TB := tb_mem (List.mem_append_right _ (List.mem_append_left _ (List.mem_of_getElem? (i := 2) rfl))) rfl
theorem tw_40 : Cond.initialized "FewerLamps$Reader" ∈ TB := tb_mem (List.mem_append_right _ (List.mem_append_left _ (List.mem_of_getElem? (i := 3) rfl))) rfl
theorem tw_41 : Cond.initialized "FewerLamps$Town" ∈ TB := tb_mem (List.mem_append_right _ (List.mem_append_left _ (List.mem_of_getElem? (i := 4) rfl))) rfl
theorem tw_42 : Cond.initialized "FewerLamps$Present" ∈ TB := tb_mem (List.mem_append_right _ (List.mem_append_left _ (List.mem_of_getElem? (i := 5) rfl))) rfl
theorem tw_43 : Cond.initialized "FewerLamps$Bellwork" ∈ TB := tb_mem (List.mem_append_right _ (List.mem_append_left _ (List.mem_of_getElem? (i := 6) rfl))) rfl
theorem tw_44 : Cond.initialized "FewerLamps$Hands" ∈ TB := tb_mem (List.mem_append_right _ (List.mem_append_left _ (List.mem_of_getElem? (i := 7) rfl))) rfl
theorem tw_45 : Cond.initialized "FewerLamps$Kinds" ∈ TB := tb_mem (List.mem_append_right _ (List.mem_append_left _ (List.mem_of_getElem? (i := 8) rfl))) rfl
theorem tw_46 : Cond.initialized "FewerLampsModel" ∈ TB := tb_mem (List.mem_append_right _ (List.mem_append_left _ (List.mem_of_getElem? (i := 9) rfl))) rfl
theorem tw_47 : Cond.initialized "java/util/Arrays" ∈ TB := tb_mem (List.mem_append_right _ (List.mem_append_left _ (List.mem_of_getElem? (i := 10) rfl))) rfl
theorem tw_48 : Cond.initialized "java/lang/Math" ∈ TB := tb_mem (List.mem_append_right _ (List.mem_append_left _ (List.mem_of_getElem? (i := 11) rfl))) rfl
theorem tw_49 : Cond.initialized "java/lang/System" ∈ TB := tb_mem (List.mem_append_right _ (List.mem_append_left _ (List.mem_of_getElem? (i := 12) rfl))) rfl
theorem tw_50 : Cond.initialized "java/lang/Integer" ∈ TB := tb_mem (List.mem_append_right _ (List.mem_append_left _ (List.mem_of_getElem? (i := 13) rfl))) rfl
theorem tw_51 : Cond.classLink "FewerLampsLaw" 7 "FewerLamps" ∈ TB := tb_mem (List.mem_append_right _ (List.mem_append_left _ (List.mem_of_getElem? (i := 14) rfl))) rfl
theorem tw_52 : Cond.instantiable "FewerLamps" 10 ∈ TB := tb_mem (List.mem_append_right _ (List.mem_append_left _ (List.mem_of_getElem? (i := 15) rfl))) rfl
theorem tw_53 : Cond.methodLink "FewerLampsLaw" 9 ⟨"FewerLamps", "<init>", "()V"⟩ ∈ TB := tb_mem (List.mem_append_right _ (List.mem_append_left _ (List.mem_of_getElem? (i := 16) rfl))) rfl
theorem tw_54 : Cond.instanceMethod ⟨"FewerLamps", "<init>", "()V"⟩ ∈ TB := tb_mem (List.mem_append_right _ (List.mem_append_left _ (List.mem_of_getElem? (i := 17) rfl))) rfl
theorem tw_55 : Cond.code ⟨"FewerLamps", "<init>", "()V"⟩ prog_1_method_1_code 1 (Option.none : Option FieldType) ∈ TB := tb_mem (List.mem_append_right _ (List.mem_append_left _ (List.mem_of_getElem? (i := 18) rfl))) rfl
theorem tw_56 : Cond.methodLink "FewerLamps" 1 ⟨"java/lang/Object", "<init>", "()V"⟩ ∈ TB := tb_mem (List.mem_append_right _ (List.mem_append_left _ (List.mem_of_getElem? (i := 19) rfl))) rfl
theorem tw_57 : Cond.instanceMethod ⟨"java/lang/Object", "<init>", "()V"⟩ ∈ TB := tb_mem (List.mem_append_right _ (List.mem_append_left _ (List.mem_of_getElem? (i := 20) rfl))) rfl
theorem tw_58 : Cond.code ⟨"java/lang/Object", "<init>", "()V"⟩ object_method_1_code 1 (Option.none : Option FieldType) ∈ TB := tb_mem (List.mem_append_right _ (List.mem_append_left _ (List.mem_of_getElem? (i := 21) rfl))) rfl
theorem tw_59 : Cond.classLink "FewerLamps" 7 "FewerLamps$Text" ∈ TB := tb_mem (List.mem_append_right _ (List.mem_append_left _ (List.mem_of_getElem? (i := 22) rfl))) rfl
theorem tw_60 : Cond.instantiable "FewerLamps$Text" 2 ∈ TB := tb_mem (List.mem_append_right _ (List.mem_append_left _ (List.mem_of_getElem? (i := 23) rfl))) rfl
theorem tw_61 : Cond.methodLinkNest "FewerLamps" 9 ⟨"FewerLamps$Text", "<init>", "()V"⟩ "FewerLamps" ∈ lw_tbl := List.mem_append_right _ (List.mem_append_left _ (List.mem_of_getElem? (i := 24) rfl))
theorem tw_62 : Cond.instanceMethod ⟨"FewerLamps$Text", "<init>", "()V"⟩ ∈ TB := tb_mem (List.mem_append_right _ (List.mem_append_left _ (List.mem_of_getElem? (i := 25) rfl))) rfl
theorem tw_63 : Cond.code ⟨"FewerLamps$Text", "<init>", "()V"⟩ prog_7_method_1_code 1 (Option.none : Option FieldType) ∈ TB := tb_mem (List.mem_append_right _ (List.mem_append_left _ (List.mem_of_getElem? (i := 26) rfl))) rfl
theorem tw_64 : Cond.methodLink "FewerLamps$Text" 3 ⟨"java/lang/Object", "<init>", "()V"⟩ ∈ TB := tb_mem (List.mem_append_right _ (List.mem_append_left _ (List.mem_of_getElem? (i := 27) rfl))) rfl
theorem tw_65 : Cond.fieldLink "FewerLamps$Text" 9 "FewerLamps$Text" "bytes" "[I" ∈ TB := tb_mem (List.mem_append_right _ (List.mem_append_left _ (List.mem_of_getElem? (i := 28) rfl))) rfl
theorem tw_66 : Cond.fieldLink "FewerLamps$Text" 15 "FewerLamps$Text" "length" "I" ∈ TB := tb_mem (List.mem_append_right _ (List.mem_append_left _ (List.mem_of_getElem? (i := 29) rfl))) rfl
theorem tw_67 : Cond.fieldLink "FewerLamps" 77 "FewerLamps$Text" "length" "I" ∈ TB := tb_mem (List.mem_append_right _ (List.mem_append_left _ (List.mem_of_getElem? (i := 30) rfl))) rfl
theorem tw_68 : Cond.fieldLink "FewerLamps$Reader" 72 "FewerLamps$Text" "length" "I" ∈ TB := tb_mem (List.mem_append_right _ (List.mem_append_left _ (List.mem_of_getElem? (i := 31) rfl))) rfl
theorem tw_69 : Cond.laysFinal "FewerLamps$Text" "FewerLamps$Text" "bytes" "[I" ∈ TB := tb_mem (List.mem_append_right _ (List.mem_append_left _ (List.mem_of_getElem? (i := 32) rfl))) rfl
theorem tw_71 : Cond.lays "FewerLamps$Text" "FewerLamps$Text" "length" "I" ∈ TB := tb_mem (List.mem_append_right _ (List.mem_append_left _ (List.mem_of_getElem? (i := 34) rfl))) rfl
theorem tw_74 : Cond.arrayClass FieldType.int ∈ TB := tb_mem (List.mem_append_right _ (List.mem_append_left _ (List.mem_of_getElem? (i := 37) rfl))) rfl
theorem tw_75 : Cond.classLink "FewerLamps" 16 "FewerLamps$Reader" ∈ TB := tb_mem (List.mem_append_right _ (List.mem_append_left _ (List.mem_of_getElem? (i := 38) rfl))) rfl
theorem tw_76 : Cond.instantiable "FewerLamps$Reader" 6 ∈ TB := tb_mem (List.mem_append_right _ (List.mem_append_left _ (List.mem_of_getElem? (i := 39) rfl))) rfl
theorem tw_77 : Cond.methodLink "FewerLamps" 18 ⟨"FewerLamps$Reader", "<init>", "(LFewerLamps$Text;)V"⟩ ∈ TB := tb_mem (List.mem_append_right _ (List.mem_append_left _ (List.mem_of_getElem? (i := 40) rfl))) rfl
theorem tw_78 : Cond.instanceMethod ⟨"FewerLamps$Reader", "<init>", "(LFewerLamps$Text;)V"⟩ ∈ TB := tb_mem (List.mem_append_right _ (List.mem_append_left _ (List.mem_of_getElem? (i := 41) rfl))) rfl
theorem tw_79 : Cond.code ⟨"FewerLamps$Reader", "<init>", "(LFewerLamps$Text;)V"⟩ prog_6_method_1_code 2 (Option.none : Option FieldType) ∈ TB := tb_mem (List.mem_append_right _ (List.mem_append_left _ (List.mem_of_getElem? (i := 42) rfl))) rfl
theorem tw_80 : Cond.methodLink "FewerLamps$Reader" 3 ⟨"java/lang/Object", "<init>", "()V"⟩ ∈ TB := tb_mem (List.mem_append_right _ (List.mem_append_left _ (List.mem_of_getElem? (i := 43) rfl))) rfl
theorem tw_81 : Cond.classLink "FewerLamps$Reader" 9 "FewerLamps$Town" ∈ TB := tb_mem (List.mem_append_right _ (List.mem_append_left _ (List.mem_of_getElem? (i := 44) rfl))) rfl
theorem tw_82 : Cond.instantiable "FewerLamps$Town" 7 ∈ TB := tb_mem (List.mem_append_right _ (List.mem_append_left _ (List.mem_of_getElem? (i := 45) rfl))) rfl
theorem tw_83 : Cond.methodLinkNest "FewerLamps$Reader" 11 ⟨"FewerLamps$Town", "<init>", "()V"⟩ "FewerLamps" ∈ lw_tbl := List.mem_append_right _ (List.mem_append_left _ (List.mem_of_getElem? (i := 46) rfl))
theorem tw_84 : Cond.instanceMethod ⟨"FewerLamps$Town", "<init>", "()V"⟩ ∈ TB := tb_mem (List.mem_append_right _ (List.mem_append_left _ (List.mem_of_getElem? (i := 47) rfl))) rfl
theorem tw_85 : Cond.code ⟨"FewerLamps$Town", "<init>", "()V"⟩ prog_8_method_1_code 1 (Option.none : Option FieldType) ∈ TB := tb_mem (List.mem_append_right _ (List.mem_append_left _ (List.mem_of_getElem? (i := 48) rfl))) rfl
theorem tw_86 : Cond.methodLink "FewerLamps$Town" 3 ⟨"java/lang/Object", "<init>", "()V"⟩ ∈ TB := tb_mem (List.mem_append_right _ (List.mem_append_left _ (List.mem_of_getElem? (i := 49) rfl))) rfl
theorem tw_87 : Cond.fieldLink "FewerLamps$Town" 24 "FewerLamps$Town" "lamps" "I" ∈ TB := tb_mem (List.mem_append_right _ (List.mem_append_left _ (List.mem_of_getElem? (i := 50) rfl))) rfl
theorem tw_88 : Cond.fieldLink "FewerLamps$Reader" 42 "FewerLamps$Town" "lamps" "I" ∈ TB := tb_mem (List.mem_append_right _ (List.mem_append_left _ (List.mem_of_getElem? (i := 51) rfl))) rfl
theorem tw_89 : Cond.fieldLink "FewerLamps" 107 "FewerLamps$Town" "lamps" "I" ∈ TB := tb_mem (List.mem_append_right _ (List.mem_append_left _ (List.mem_of_getElem? (i := 52) rfl))) rfl
theorem tw_90 : Cond.fieldLink "FewerLamps$Bellwork" 67 "FewerLamps$Town" "lamps" "I" ∈ TB := tb_mem (List.mem_append_right _ (List.mem_append_left _ (List.mem_of_getElem? (i := 53) rfl))) rfl
theorem tw_91 : Cond.fieldLink "FewerLamps$Hands" 64 "FewerLamps$Town" "lamps" "I" ∈ TB := tb_mem (List.mem_append_right _ (List.mem_append_left _ (List.mem_of_getElem? (i := 54) rfl))) rfl
theorem tw_92 : Cond.fieldLink "FewerLamps$Town" 28 "FewerLamps$Town" "streets" "I" ∈ TB := tb_mem (List.mem_append_right _ (List.mem_append_left _ (List.mem_of_getElem? (i := 55) rfl))) rfl
theorem tw_93 : Cond.fieldLink "FewerLamps$Bellwork" 50 "FewerLamps$Town" "streets" "I" ∈ TB := tb_mem (List.mem_append_right _ (List.mem_append_left _ (List.mem_of_getElem? (i := 56) rfl))) rfl
theorem tw_94 : Cond.fieldLink "FewerLamps$Reader" 48 "FewerLamps$Town" "streets" "I" ∈ TB := tb_mem (List.mem_append_right _ (List.mem_append_left _ (List.mem_of_getElem? (i := 57) rfl))) rfl
theorem tw_95 : Cond.fieldLink "FewerLamps" 110 "FewerLamps$Town" "streets" "I" ∈ TB := tb_mem (List.mem_append_right _ (List.mem_append_left _ (List.mem_of_getElem? (i := 58) rfl))) rfl
theorem tw_96 : Cond.fieldLink "FewerLamps" 97 "FewerLamps$Town" "told" "I" ∈ TB := tb_mem (List.mem_append_right _ (List.mem_append_left _ (List.mem_of_getElem? (i := 59) rfl))) rfl
theorem tw_97 : Cond.fieldLink "FewerLamps$Town" 39 "FewerLamps$Town" "told" "I" ∈ TB := tb_mem (List.mem_append_right _ (List.mem_append_left _ (List.mem_of_getElem? (i := 60) rfl))) rfl
theorem tw_98 : Cond.fieldLink "FewerLamps$Town" 9 "FewerLamps$Town" "rules" "[I" ∈ TB := tb_mem (List.mem_append_right _ (List.mem_append_left _ (List.mem_of_getElem? (i := 61) rfl))) rfl
theorem tw_99 : Cond.fieldLink "FewerLamps$Kinds" 61 "FewerLamps$Town" "rules" "[I" ∈ TB := tb_mem (List.mem_append_right _ (List.mem_append_left _ (List.mem_of_getElem? (i := 62) rfl))) rfl
theorem tw_100 : Cond.fieldLink "FewerLamps" 116 "FewerLamps$Town" "rules" "[I" ∈ TB := tb_mem (List.mem_append_right _ (List.mem_append_left _ (List.mem_of_getElem? (i := 63) rfl))) rfl
theorem tw_101 : Cond.fieldLink "FewerLamps$Bellwork" 74 "FewerLamps$Town" "rules" "[I" ∈ TB := tb_mem (List.mem_append_right _ (List.mem_append_left _ (List.mem_of_getElem? (i := 64) rfl))) rfl
theorem tw_102 : Cond.fieldLink "FewerLamps$Town" 15 "FewerLamps$Town" "lesser" "[I" ∈ TB := tb_mem (List.mem_append_right _ (List.mem_append_left _ (List.mem_of_getElem? (i := 65) rfl))) rfl
theorem tw_103 : Cond.fieldLink "FewerLamps$Bellwork" 53 "FewerLamps$Town" "lesser" "[I" ∈ TB := tb_mem (List.mem_append_right _ (List.mem_append_left _ (List.mem_of_getElem? (i := 66) rfl))) rfl
theorem tw_104 : Cond.fieldLink "FewerLamps" 142 "FewerLamps$Town" "lesser" "[I" ∈ TB := tb_mem (List.mem_append_right _ (List.mem_append_left _ (List.mem_of_getElem? (i := 67) rfl))) rfl
theorem tw_105 : Cond.fieldLink "FewerLamps$Town" 18 "FewerLamps$Town" "greater" "[I" ∈ TB := tb_mem (List.mem_append_right _ (List.mem_append_left _ (List.mem_of_getElem? (i := 68) rfl))) rfl
theorem tw_106 : Cond.fieldLink "FewerLamps$Bellwork" 56 "FewerLamps$Town" "greater" "[I" ∈ TB := tb_mem (List.mem_append_right _ (List.mem_append_left _ (List.mem_of_getElem? (i := 69) rfl))) rfl
theorem tw_107 : Cond.fieldLink "FewerLamps" 145 "FewerLamps$Town" "greater" "[I" ∈ TB := tb_mem (List.mem_append_right _ (List.mem_append_left _ (List.mem_of_getElem? (i := 70) rfl))) rfl
theorem tw_108 : Cond.fieldLink "FewerLamps$Town" 21 "FewerLamps$Town" "roads" "[I" ∈ TB := tb_mem (List.mem_append_right _ (List.mem_append_left _ (List.mem_of_getElem? (i := 71) rfl))) rfl
theorem tw_109 : Cond.fieldLink "FewerLamps$Bellwork" 39 "FewerLamps$Town" "roads" "[I" ∈ TB := tb_mem (List.mem_append_right _ (List.mem_append_left _ (List.mem_of_getElem? (i := 72) rfl))) rfl
theorem tw_110 : Cond.fieldLink "FewerLamps$Kinds" 48 "FewerLamps$Town" "roads" "[I" ∈ TB := tb_mem (List.mem_append_right _ (List.mem_append_left _ (List.mem_of_getElem? (i := 73) rfl))) rfl
theorem tw_111 : Cond.fieldLink "FewerLamps" 123 "FewerLamps$Town" "roads" "[I" ∈ TB := tb_mem (List.mem_append_right _ (List.mem_append_left _ (List.mem_of_getElem? (i := 74) rfl))) rfl
theorem tw_112 : Cond.fieldLink "FewerLamps$Hands" 67 "FewerLamps$Town" "roads" "[I" ∈ TB := tb_mem (List.mem_append_right _ (List.mem_append_left _ (List.mem_of_getElem? (i := 75) rfl))) rfl
theorem tw_113 : Cond.lays "FewerLamps$Town" "FewerLamps$Town" "lamps" "I" ∈ TB := tb_mem (List.mem_append_right _ (List.mem_append_left _ (List.mem_of_getElem? (i := 76) rfl))) rfl
theorem tw_115 : Cond.lays "FewerLamps$Town" "FewerLamps$Town" "streets" "I" ∈ TB := tb_mem (List.mem_append_right _ (List.mem_append_left _ (List.mem_of_getElem? (i := 78) rfl))) rfl
theorem tw_117 : Cond.lays "FewerLamps$Town" "FewerLamps$Town" "told" "I" ∈ TB := tb_mem (List.mem_append_right _ (List.mem_append_left _ (List.mem_of_getElem? (i := 80) rfl))) rfl
theorem tw_119 : Cond.laysFinal "FewerLamps$Town" "FewerLamps$Town" "rules" "[I" ∈ TB := tb_mem (List.mem_append_right _ (List.mem_append_left _ (List.mem_of_getElem? (i := 82) rfl))) rfl
theorem tw_121 : Cond.laysFinal "FewerLamps$Town" "FewerLamps$Town" "lesser" "[I" ∈ TB := tb_mem (List.mem_append_right _ (List.mem_append_left _ (List.mem_of_getElem? (i := 84) rfl))) rfl
theorem tw_123 : Cond.laysFinal "FewerLamps$Town" "FewerLamps$Town" "greater" "[I" ∈ TB := tb_mem (List.mem_append_right _ (List.mem_append_left _ (List.mem_of_getElem? (i := 86) rfl))) rfl
theorem tw_125 : Cond.laysFinal "FewerLamps$Town" "FewerLamps$Town" "roads" "[I" ∈ TB := tb_mem (List.mem_append_right _ (List.mem_append_left _ (List.mem_of_getElem? (i := 88) rfl))) rfl
theorem tw_128 : Cond.fieldLink "FewerLamps$Reader" 12 "FewerLamps$Reader" "draft" "LFewerLamps$Town;" ∈ TB := tb_mem (List.mem_append_right _ (List.mem_append_left _ (List.mem_of_getElem? (i := 91) rfl))) rfl
theorem tw_129 : Cond.fieldLink "FewerLamps" 88 "FewerLamps$Reader" "draft" "LFewerLamps$Town;" ∈ TB := tb_mem (List.mem_append_right _ (List.mem_append_left _ (List.mem_of_getElem? (i := 92) rfl))) rfl
theorem tw_130 : Cond.fieldLink "FewerLamps" 85 "FewerLamps$Reader" "place" "I" ∈ TB := tb_mem (List.mem_append_right _ (List.mem_append_left _ (List.mem_of_getElem? (i := 93) rfl))) rfl
theorem tw_131 : Cond.fieldLink "FewerLamps$Reader" 81 "FewerLamps$Reader" "place" "I" ∈ TB := tb_mem (List.mem_append_right _ (List.mem_append_left _ (List.mem_of_getElem? (i := 94) rfl))) rfl
theorem tw_132 : Cond.fieldLink "FewerLamps$Reader" 18 "FewerLamps$Reader" "text" "LFewerLamps$Text;" ∈ TB := tb_mem (List.mem_append_right _ (List.mem_append_left _ (List.mem_of_getElem? (i := 95) rfl))) rfl
theorem tw_133 : Cond.fieldLink "FewerLamps$Reader" 22 "FewerLamps$Reader" "reached" "I" ∈ TB := tb_mem (List.mem_append_right _ (List.mem_append_left _ (List.mem_of_getElem? (i := 96) rfl))) rfl
theorem tw_134 : Cond.fieldLink "FewerLamps$Reader" 32 "FewerLamps$Reader" "sort" "I" ∈ TB := tb_mem (List.mem_append_right _ (List.mem_append_left _ (List.mem_of_getElem? (i := 97) rfl))) rfl
theorem tw_135 : Cond.fieldLink "FewerLamps$Reader" 39 "FewerLamps$Reader" "value" "I" ∈ TB := tb_mem (List.mem_append_right _ (List.mem_append_left _ (List.mem_of_getElem? (i := 98) rfl))) rfl
theorem tw_136 : Cond.laysFinal "FewerLamps$Reader" "FewerLamps$Reader" "draft" "LFewerLamps$Town;" ∈ TB := tb_mem (List.mem_append_right _ (List.mem_append_left _ (List.mem_of_getElem? (i := 99) rfl))) rfl
theorem tw_138 : Cond.lays "FewerLamps$Reader" "FewerLamps$Reader" "place" "I" ∈ TB := tb_mem (List.mem_append_right _ (List.mem_append_left _ (List.mem_of_getElem? (i := 101) rfl))) rfl
theorem tw_140 : Cond.laysFinal "FewerLamps$Reader" "FewerLamps$Reader" "text" "LFewerLamps$Text;" ∈ TB := tb_mem (List.mem_append_right _ (List.mem_append_left _ (List.mem_of_getElem? (i := 103) rfl))) rfl
theorem tw_142 : Cond.lays "FewerLamps$Reader" "FewerLamps$Reader" "reached" "I" ∈ TB := tb_mem (List.mem_append_right _ (List.mem_append_left _ (List.mem_of_getElem? (i := 105) rfl))) rfl
theorem tw_144 : Cond.lays "FewerLamps$Reader" "FewerLamps$Reader" "sort" "I" ∈ TB := tb_mem (List.mem_append_right _ (List.mem_append_left _ (List.mem_of_getElem? (i := 107) rfl))) rfl
theorem tw_146 : Cond.lays "FewerLamps$Reader" "FewerLamps$Reader" "value" "I" ∈ TB := tb_mem (List.mem_append_right _ (List.mem_append_left _ (List.mem_of_getElem? (i := 109) rfl))) rfl
theorem tw_149 : Cond.classLink "FewerLamps" 25 "FewerLamps$Town" ∈ TB := tb_mem (List.mem_append_right _ (List.mem_append_left _ (List.mem_of_getElem? (i := 112) rfl))) rfl
theorem tw_150 : Cond.methodLinkNest "FewerLamps" 27 ⟨"FewerLamps$Town", "<init>", "()V"⟩ "FewerLamps" ∈ lw_tbl := List.mem_append_right _ (List.mem_append_left _ (List.mem_of_getElem? (i := 113) rfl))
theorem tw_151 : Cond.classLink "FewerLamps" 32 "FewerLamps$Present" ∈ TB := tb_mem (List.mem_append_right _ (List.mem_append_left _ (List.mem_of_getElem? (i := 114) rfl))) rfl
theorem tw_152 : Cond.instantiable "FewerLamps$Present" 6 ∈ TB := tb_mem (List.mem_append_right _ (List.mem_append_left _ (List.mem_of_getElem? (i := 115) rfl))) rfl
theorem tw_153 : Cond.methodLinkNest "FewerLamps" 34 ⟨"FewerLamps$Present", "<init>", "()V"⟩ "FewerLamps" ∈ lw_tbl := List.mem_append_right _ (List.mem_append_left _ (List.mem_of_getElem? (i := 116) rfl))
theorem tw_154 : Cond.instanceMethod ⟨"FewerLamps$Present", "<init>", "()V"⟩ ∈ TB := tb_mem (List.mem_append_right _ (List.mem_append_left _ (List.mem_of_getElem? (i := 117) rfl))) rfl
theorem tw_155 : Cond.code ⟨"FewerLamps$Present", "<init>", "()V"⟩ prog_5_method_1_code 1 (Option.none : Option FieldType) ∈ TB := tb_mem (List.mem_append_right _ (List.mem_append_left _ (List.mem_of_getElem? (i := 118) rfl))) rfl
theorem tw_156 : Cond.methodLink "FewerLamps$Present" 3 ⟨"java/lang/Object", "<init>", "()V"⟩ ∈ TB := tb_mem (List.mem_append_right _ (List.mem_append_left _ (List.mem_of_getElem? (i := 119) rfl))) rfl
theorem tw_157 : Cond.fieldLink "FewerLamps$Present" 15 "FewerLamps$Present" "bells" "I" ∈ TB := tb_mem (List.mem_append_right _ (List.mem_append_left _ (List.mem_of_getElem? (i := 120) rfl))) rfl
theorem tw_158 : Cond.fieldLink "FewerLamps" 151 "FewerLamps$Present" "bells" "I" ∈ TB := tb_mem (List.mem_append_right _ (List.mem_append_left _ (List.mem_of_getElem? (i := 121) rfl))) rfl
theorem tw_159 : Cond.fieldLink "FewerLamps$Present" 19 "FewerLamps$Present" "stand" "I" ∈ TB := tb_mem (List.mem_append_right _ (List.mem_append_left _ (List.mem_of_getElem? (i := 122) rfl))) rfl
theorem tw_160 : Cond.fieldLink "FewerLamps$Kinds" 40 "FewerLamps$Present" "stand" "I" ∈ TB := tb_mem (List.mem_append_right _ (List.mem_append_left _ (List.mem_of_getElem? (i := 123) rfl))) rfl
theorem tw_161 : Cond.fieldLink "FewerLamps" 120 "FewerLamps$Present" "stand" "I" ∈ TB := tb_mem (List.mem_append_right _ (List.mem_append_left _ (List.mem_of_getElem? (i := 124) rfl))) rfl
theorem tw_162 : Cond.fieldLink "FewerLamps$Present" 22 "FewerLamps$Present" "turned" "I" ∈ TB := tb_mem (List.mem_append_right _ (List.mem_append_left _ (List.mem_of_getElem? (i := 125) rfl))) rfl
theorem tw_163 : Cond.fieldLink "FewerLamps" 160 "FewerLamps$Present" "turned" "I" ∈ TB := tb_mem (List.mem_append_right _ (List.mem_append_left _ (List.mem_of_getElem? (i := 126) rfl))) rfl
theorem tw_164 : Cond.fieldLink "FewerLamps$Present" 25 "FewerLamps$Present" "fog" "I" ∈ TB := tb_mem (List.mem_append_right _ (List.mem_append_left _ (List.mem_of_getElem? (i := 127) rfl))) rfl
theorem tw_165 : Cond.fieldLink "FewerLamps" 148 "FewerLamps$Present" "fog" "I" ∈ TB := tb_mem (List.mem_append_right _ (List.mem_append_left _ (List.mem_of_getElem? (i := 128) rfl))) rfl
theorem tw_166 : Cond.fieldLink "FewerLamps$Present" 28 "FewerLamps$Present" "known" "I" ∈ TB := tb_mem (List.mem_append_right _ (List.mem_append_left _ (List.mem_of_getElem? (i := 129) rfl))) rfl
theorem tw_167 : Cond.fieldLink "FewerLamps" 163 "FewerLamps$Present" "known" "I" ∈ TB := tb_mem (List.mem_append_right _ (List.mem_append_left _ (List.mem_of_getElem? (i := 130) rfl))) rfl
theorem tw_168 : Cond.fieldLink "FewerLamps$Present" 11 "FewerLamps$Present" "past" "[I" ∈ TB := tb_mem (List.mem_append_right _ (List.mem_append_left _ (List.mem_of_getElem? (i := 131) rfl))) rfl
theorem tw_169 : Cond.lays "FewerLamps$Present" "FewerLamps$Present" "bells" "I" ∈ TB := tb_mem (List.mem_append_right _ (List.mem_append_left _ (List.mem_of_getElem? (i := 132) rfl))) rfl
theorem tw_171 : Cond.lays "FewerLamps$Present" "FewerLamps$Present" "stand" "I" ∈ TB := tb_mem (List.mem_append_right _ (List.mem_append_left _ (List.mem_of_getElem? (i := 134) rfl))) rfl
theorem tw_173 : Cond.lays "FewerLamps$Present" "FewerLamps$Present" "turned" "I" ∈ TB := tb_mem (List.mem_append_right _ (List.mem_append_left _ (List.mem_of_getElem? (i := 136) rfl))) rfl
theorem tw_175 : Cond.lays "FewerLamps$Present" "FewerLamps$Present" "fog" "I" ∈ TB := tb_mem (List.mem_append_right _ (List.mem_append_left _ (List.mem_of_getElem? (i := 138) rfl))) rfl
theorem tw_177 : Cond.lays "FewerLamps$Present" "FewerLamps$Present" "known" "I" ∈ TB := tb_mem (List.mem_append_right _ (List.mem_append_left _ (List.mem_of_getElem? (i := 140) rfl))) rfl
theorem tw_179 : Cond.laysFinal "FewerLamps$Present" "FewerLamps$Present" "past" "[I" ∈ TB := tb_mem (List.mem_append_right _ (List.mem_append_left _ (List.mem_of_getElem? (i := 142) rfl))) rfl
theorem tw_182 : Cond.arrayOver (FieldType.object "FewerLamps$Present") ∈ lw_tbl := List.mem_append_right _ (List.mem_append_left _ (List.mem_of_getElem? (i := 145) rfl))
theorem tw_183 : Cond.classLink "FewerLamps" 43 "FewerLamps$Bellwork" ∈ TB := tb_mem (List.mem_append_right _ (List.mem_append_left _ (List.mem_of_getElem? (i := 146) rfl))) rfl
theorem tw_184 : Cond.instantiable "FewerLamps$Bellwork" 8 ∈ TB := tb_mem (List.mem_append_right _ (List.mem_append_left _ (List.mem_of_getElem? (i := 147) rfl))) rfl
theorem tw_185 : Cond.methodLink "FewerLamps" 45 ⟨"FewerLamps$Bellwork", "<init>", "(LFewerLamps$Town;)V"⟩ ∈ TB := tb_mem (List.mem_append_right _ (List.mem_append_left _ (List.mem_of_getElem? (i := 148) rfl))) rfl
theorem tw_186 : Cond.instanceMethod ⟨"FewerLamps$Bellwork", "<init>", "(LFewerLamps$Town;)V"⟩ ∈ TB := tb_mem (List.mem_append_right _ (List.mem_append_left _ (List.mem_of_getElem? (i := 149) rfl))) rfl
theorem tw_187 : Cond.code ⟨"FewerLamps$Bellwork", "<init>", "(LFewerLamps$Town;)V"⟩ prog_2_method_1_code 2 (Option.none : Option FieldType) ∈ TB := tb_mem (List.mem_append_right _ (List.mem_append_left _ (List.mem_of_getElem? (i := 150) rfl))) rfl
theorem tw_188 : Cond.methodLink "FewerLamps$Bellwork" 3 ⟨"java/lang/Object", "<init>", "()V"⟩ ∈ TB := tb_mem (List.mem_append_right _ (List.mem_append_left _ (List.mem_of_getElem? (i := 151) rfl))) rfl
theorem tw_189 : Cond.fieldLink "FewerLamps$Bellwork" 21 "FewerLamps$Bellwork" "town" "LFewerLamps$Town;" ∈ TB := tb_mem (List.mem_append_right _ (List.mem_append_left _ (List.mem_of_getElem? (i := 152) rfl))) rfl
theorem tw_190 : Cond.fieldLink "FewerLamps$Bellwork" 9 "FewerLamps$Bellwork" "near" "[I" ∈ TB := tb_mem (List.mem_append_right _ (List.mem_append_left _ (List.mem_of_getElem? (i := 153) rfl))) rfl
theorem tw_191 : Cond.fieldLink "FewerLamps" 136 "FewerLamps$Bellwork" "near" "[I" ∈ TB := tb_mem (List.mem_append_right _ (List.mem_append_left _ (List.mem_of_getElem? (i := 154) rfl))) rfl
theorem tw_192 : Cond.fieldLink "FewerLamps$Bellwork" 15 "FewerLamps$Bellwork" "made" "[I" ∈ TB := tb_mem (List.mem_append_right _ (List.mem_append_left _ (List.mem_of_getElem? (i := 155) rfl))) rfl
theorem tw_193 : Cond.fieldLink "FewerLamps$Bellwork" 18 "FewerLamps$Bellwork" "seen" "[I" ∈ TB := tb_mem (List.mem_append_right _ (List.mem_append_left _ (List.mem_of_getElem? (i := 156) rfl))) rfl
theorem tw_194 : Cond.fieldLink "FewerLamps$Bellwork" 25 "FewerLamps$Bellwork" "laid" "Z" ∈ TB := tb_mem (List.mem_append_right _ (List.mem_append_left _ (List.mem_of_getElem? (i := 157) rfl))) rfl
theorem tw_195 : Cond.fieldLink "FewerLamps$Bellwork" 29 "FewerLamps$Bellwork" "laidFog" "I" ∈ TB := tb_mem (List.mem_append_right _ (List.mem_append_left _ (List.mem_of_getElem? (i := 158) rfl))) rfl
theorem tw_196 : Cond.fieldLink "FewerLamps$Bellwork" 85 "FewerLamps$Bellwork" "lead" "I" ∈ TB := tb_mem (List.mem_append_right _ (List.mem_append_left _ (List.mem_of_getElem? (i := 159) rfl))) rfl
theorem tw_197 : Cond.fieldLink "FewerLamps" 176 "FewerLamps$Bellwork" "lead" "I" ∈ TB := tb_mem (List.mem_append_right _ (List.mem_append_left _ (List.mem_of_getElem? (i := 160) rfl))) rfl
theorem tw_198 : Cond.fieldLink "FewerLamps$Bellwork" 88 "FewerLamps$Bellwork" "length" "I" ∈ TB := tb_mem (List.mem_append_right _ (List.mem_append_left _ (List.mem_of_getElem? (i := 161) rfl))) rfl
theorem tw_199 : Cond.fieldLink "FewerLamps" 179 "FewerLamps$Bellwork" "length" "I" ∈ TB := tb_mem (List.mem_append_right _ (List.mem_append_left _ (List.mem_of_getElem? (i := 162) rfl))) rfl
theorem tw_200 : Cond.laysFinal "FewerLamps$Bellwork" "FewerLamps$Bellwork" "town" "LFewerLamps$Town;" ∈ TB := tb_mem (List.mem_append_right _ (List.mem_append_left _ (List.mem_of_getElem? (i := 163) rfl))) rfl
theorem tw_202 : Cond.laysFinal "FewerLamps$Bellwork" "FewerLamps$Bellwork" "near" "[I" ∈ TB := tb_mem (List.mem_append_right _ (List.mem_append_left _ (List.mem_of_getElem? (i := 165) rfl))) rfl
theorem tw_204 : Cond.laysFinal "FewerLamps$Bellwork" "FewerLamps$Bellwork" "made" "[I" ∈ TB := tb_mem (List.mem_append_right _ (List.mem_append_left _ (List.mem_of_getElem? (i := 167) rfl))) rfl
theorem tw_206 : Cond.laysFinal "FewerLamps$Bellwork" "FewerLamps$Bellwork" "seen" "[I" ∈ TB := tb_mem (List.mem_append_right _ (List.mem_append_left _ (List.mem_of_getElem? (i := 169) rfl))) rfl
theorem tw_208 : Cond.lays "FewerLamps$Bellwork" "FewerLamps$Bellwork" "laid" "Z" ∈ TB := tb_mem (List.mem_append_right _ (List.mem_append_left _ (List.mem_of_getElem? (i := 171) rfl))) rfl
theorem tw_210 : Cond.lays "FewerLamps$Bellwork" "FewerLamps$Bellwork" "laidFog" "I" ∈ TB := tb_mem (List.mem_append_right _ (List.mem_append_left _ (List.mem_of_getElem? (i := 173) rfl))) rfl
theorem tw_212 : Cond.lays "FewerLamps$Bellwork" "FewerLamps$Bellwork" "lead" "I" ∈ TB := tb_mem (List.mem_append_right _ (List.mem_append_left _ (List.mem_of_getElem? (i := 175) rfl))) rfl
theorem tw_214 : Cond.lays "FewerLamps$Bellwork" "FewerLamps$Bellwork" "length" "I" ∈ TB := tb_mem (List.mem_append_right _ (List.mem_append_left _ (List.mem_of_getElem? (i := 177) rfl))) rfl
theorem tw_217 : Cond.classLink "FewerLamps" 55 "FewerLamps$Hands" ∈ TB := tb_mem (List.mem_append_right _ (List.mem_append_left _ (List.mem_of_getElem? (i := 180) rfl))) rfl
theorem tw_218 : Cond.instantiable "FewerLamps$Hands" 6 ∈ TB := tb_mem (List.mem_append_right _ (List.mem_append_left _ (List.mem_of_getElem? (i := 181) rfl))) rfl
theorem tw_219 : Cond.methodLink "FewerLamps" 57 ⟨"FewerLamps$Hands", "<init>", "(LFewerLamps$Town;LFewerLamps$Bellwork;)V"⟩ ∈ TB := tb_mem (List.mem_append_right _ (List.mem_append_left _ (List.mem_of_getElem? (i := 182) rfl))) rfl
theorem tw_220 : Cond.instanceMethod ⟨"FewerLamps$Hands", "<init>", "(LFewerLamps$Town;LFewerLamps$Bellwork;)V"⟩ ∈ TB := tb_mem (List.mem_append_right _ (List.mem_append_left _ (List.mem_of_getElem? (i := 183) rfl))) rfl
theorem tw_221 : Cond.code ⟨"FewerLamps$Hands", "<init>", "(LFewerLamps$Town;LFewerLamps$Bellwork;)V"⟩ prog_3_method_1_code 3 (Option.none : Option FieldType) ∈ TB := tb_mem (List.mem_append_right _ (List.mem_append_left _ (List.mem_of_getElem? (i := 184) rfl))) rfl
theorem tw_222 : Cond.methodLink "FewerLamps$Hands" 3 ⟨"java/lang/Object", "<init>", "()V"⟩ ∈ TB := tb_mem (List.mem_append_right _ (List.mem_append_left _ (List.mem_of_getElem? (i := 185) rfl))) rfl
theorem tw_223 : Cond.fieldLink "FewerLamps$Hands" 15 "FewerLamps$Hands" "town" "LFewerLamps$Town;" ∈ TB := tb_mem (List.mem_append_right _ (List.mem_append_left _ (List.mem_of_getElem? (i := 186) rfl))) rfl
theorem tw_224 : Cond.fieldLink "FewerLamps$Hands" 19 "FewerLamps$Hands" "work" "LFewerLamps$Bellwork;" ∈ TB := tb_mem (List.mem_append_right _ (List.mem_append_left _ (List.mem_of_getElem? (i := 187) rfl))) rfl
theorem tw_225 : Cond.fieldLink "FewerLamps$Hands" 23 "FewerLamps$Hands" "size" "I" ∈ TB := tb_mem (List.mem_append_right _ (List.mem_append_left _ (List.mem_of_getElem? (i := 188) rfl))) rfl
theorem tw_226 : Cond.fieldLink "FewerLamps" 200 "FewerLamps$Hands" "size" "I" ∈ TB := tb_mem (List.mem_append_right _ (List.mem_append_left _ (List.mem_of_getElem? (i := 189) rfl))) rfl
theorem tw_227 : Cond.fieldLink "FewerLamps$Hands" 27 "FewerLamps$Hands" "many" "I" ∈ TB := tb_mem (List.mem_append_right _ (List.mem_append_left _ (List.mem_of_getElem? (i := 190) rfl))) rfl
theorem tw_228 : Cond.fieldLink "FewerLamps" 197 "FewerLamps$Hands" "many" "I" ∈ TB := tb_mem (List.mem_append_right _ (List.mem_append_left _ (List.mem_of_getElem? (i := 191) rfl))) rfl
theorem tw_229 : Cond.fieldLink "FewerLamps$Hands" 30 "FewerLamps$Hands" "least" "I" ∈ TB := tb_mem (List.mem_append_right _ (List.mem_append_left _ (List.mem_of_getElem? (i := 192) rfl))) rfl
theorem tw_230 : Cond.fieldLink "FewerLamps" 203 "FewerLamps$Hands" "least" "I" ∈ TB := tb_mem (List.mem_append_right _ (List.mem_append_left _ (List.mem_of_getElem? (i := 193) rfl))) rfl
theorem tw_231 : Cond.fieldLink "FewerLamps$Hands" 9 "FewerLamps$Hands" "flicks" "[I" ∈ TB := tb_mem (List.mem_append_right _ (List.mem_append_left _ (List.mem_of_getElem? (i := 194) rfl))) rfl
theorem tw_232 : Cond.fieldLink "FewerLamps" 230 "FewerLamps$Hands" "flicks" "[I" ∈ TB := tb_mem (List.mem_append_right _ (List.mem_append_left _ (List.mem_of_getElem? (i := 195) rfl))) rfl
theorem tw_233 : Cond.laysFinal "FewerLamps$Hands" "FewerLamps$Hands" "town" "LFewerLamps$Town;" ∈ TB := tb_mem (List.mem_append_right _ (List.mem_append_left _ (List.mem_of_getElem? (i := 196) rfl))) rfl
theorem tw_235 : Cond.laysFinal "FewerLamps$Hands" "FewerLamps$Hands" "work" "LFewerLamps$Bellwork;" ∈ TB := tb_mem (List.mem_append_right _ (List.mem_append_left _ (List.mem_of_getElem? (i := 198) rfl))) rfl
theorem tw_237 : Cond.lays "FewerLamps$Hands" "FewerLamps$Hands" "size" "I" ∈ TB := tb_mem (List.mem_append_right _ (List.mem_append_left _ (List.mem_of_getElem? (i := 200) rfl))) rfl
theorem tw_239 : Cond.lays "FewerLamps$Hands" "FewerLamps$Hands" "many" "I" ∈ TB := tb_mem (List.mem_append_right _ (List.mem_append_left _ (List.mem_of_getElem? (i := 202) rfl))) rfl
theorem tw_241 : Cond.lays "FewerLamps$Hands" "FewerLamps$Hands" "least" "I" ∈ TB := tb_mem (List.mem_append_right _ (List.mem_append_left _ (List.mem_of_getElem? (i := 204) rfl))) rfl
theorem tw_243 : Cond.laysFinal "FewerLamps$Hands" "FewerLamps$Hands" "flicks" "[I" ∈ TB := tb_mem (List.mem_append_right _ (List.mem_append_left _ (List.mem_of_getElem? (i := 206) rfl))) rfl
theorem tw_246 : Cond.classLink "FewerLamps" 64 "FewerLamps$Kinds" ∈ TB := tb_mem (List.mem_append_right _ (List.mem_append_left _ (List.mem_of_getElem? (i := 209) rfl))) rfl
theorem tw_247 : Cond.instantiable "FewerLamps$Kinds" 3 ∈ TB := tb_mem (List.mem_append_right _ (List.mem_append_left _ (List.mem_of_getElem? (i := 210) rfl))) rfl
theorem tw_248 : Cond.methodLink "FewerLamps" 66 ⟨"FewerLamps$Kinds", "<init>", "(LFewerLamps$Town;LFewerLamps$Present;)V"⟩ ∈ TB := tb_mem (List.mem_append_right _ (List.mem_append_left _ (List.mem_of_getElem? (i := 211) rfl))) rfl
theorem tw_249 : Cond.instanceMethod ⟨"FewerLamps$Kinds", "<init>", "(LFewerLamps$Town;LFewerLamps$Present;)V"⟩ ∈ TB := tb_mem (List.mem_append_right _ (List.mem_append_left _ (List.mem_of_getElem? (i := 212) rfl))) rfl
theorem tw_250 : Cond.code ⟨"FewerLamps$Kinds", "<init>", "(LFewerLamps$Town;LFewerLamps$Present;)V"⟩ prog_4_method_1_code 3 (Option.none : Option FieldType) ∈ TB := tb_mem (List.mem_append_right _ (List.mem_append_left _ (List.mem_of_getElem? (i := 213) rfl))) rfl
theorem tw_251 : Cond.methodLink "FewerLamps$Kinds" 1 ⟨"java/lang/Object", "<init>", "()V"⟩ ∈ TB := tb_mem (List.mem_append_right _ (List.mem_append_left _ (List.mem_of_getElem? (i := 214) rfl))) rfl
theorem tw_252 : Cond.fieldLink "FewerLamps$Kinds" 7 "FewerLamps$Kinds" "town" "LFewerLamps$Town;" ∈ TB := tb_mem (List.mem_append_right _ (List.mem_append_left _ (List.mem_of_getElem? (i := 215) rfl))) rfl
theorem tw_253 : Cond.fieldLink "FewerLamps$Kinds" 13 "FewerLamps$Kinds" "present" "LFewerLamps$Present;" ∈ TB := tb_mem (List.mem_append_right _ (List.mem_append_left _ (List.mem_of_getElem? (i := 216) rfl))) rfl
theorem tw_254 : Cond.fieldLink "FewerLamps$Kinds" 36 "FewerLamps$Kinds" "trace" "J" ∈ TB := tb_mem (List.mem_append_right _ (List.mem_append_left _ (List.mem_of_getElem? (i := 217) rfl))) rfl
theorem tw_255 : Cond.fieldLink "FewerLamps" 240 "FewerLamps$Kinds" "trace" "J" ∈ TB := tb_mem (List.mem_append_right _ (List.mem_append_left _ (List.mem_of_getElem? (i := 218) rfl))) rfl
theorem tw_256 : Cond.laysFinal "FewerLamps$Kinds" "FewerLamps$Kinds" "town" "LFewerLamps$Town;" ∈ TB := tb_mem (List.mem_append_right _ (List.mem_append_left _ (List.mem_of_getElem? (i := 219) rfl))) rfl
theorem tw_258 : Cond.laysFinal "FewerLamps$Kinds" "FewerLamps$Kinds" "present" "LFewerLamps$Present;" ∈ TB := tb_mem (List.mem_append_right _ (List.mem_append_left _ (List.mem_of_getElem? (i := 221) rfl))) rfl
theorem tw_260 : Cond.lays "FewerLamps$Kinds" "FewerLamps$Kinds" "trace" "J" ∈ TB := tb_mem (List.mem_append_right _ (List.mem_append_left _ (List.mem_of_getElem? (i := 223) rfl))) rfl
theorem tw_263 : Cond.fieldLink "FewerLamps" 10 "FewerLamps" "text" "LFewerLamps$Text;" ∈ TB := tb_mem (List.mem_append_right _ (List.mem_append_left _ (List.mem_of_getElem? (i := 226) rfl))) rfl
theorem tw_264 : Cond.fieldLink "FewerLamps" 21 "FewerLamps" "reader" "LFewerLamps$Reader;" ∈ TB := tb_mem (List.mem_append_right _ (List.mem_append_left _ (List.mem_of_getElem? (i := 227) rfl))) rfl
theorem tw_265 : Cond.fieldLink "FewerLamps" 28 "FewerLamps" "town" "LFewerLamps$Town;" ∈ TB := tb_mem (List.mem_append_right _ (List.mem_append_left _ (List.mem_of_getElem? (i := 228) rfl))) rfl
theorem tw_266 : Cond.fieldLink "FewerLamps" 35 "FewerLamps" "present" "LFewerLamps$Present;" ∈ TB := tb_mem (List.mem_append_right _ (List.mem_append_left _ (List.mem_of_getElem? (i := 229) rfl))) rfl
theorem tw_267 : Cond.fieldLink "FewerLamps" 39 "FewerLamps" "images" "[LFewerLamps$Present;" ∈ TB := tb_mem (List.mem_append_right _ (List.mem_append_left _ (List.mem_of_getElem? (i := 230) rfl))) rfl
theorem tw_268 : Cond.fieldLink "FewerLamps" 104 "FewerLamps" "keptImages" "I" ∈ TB := tb_mem (List.mem_append_right _ (List.mem_append_left _ (List.mem_of_getElem? (i := 231) rfl))) rfl
theorem tw_269 : Cond.fieldLink "FewerLamps" 48 "FewerLamps" "work" "LFewerLamps$Bellwork;" ∈ TB := tb_mem (List.mem_append_right _ (List.mem_append_left _ (List.mem_of_getElem? (i := 232) rfl))) rfl
theorem tw_270 : Cond.fieldLink "FewerLamps" 52 "FewerLamps" "trial" "LFewerLamps$Bellwork;" ∈ TB := tb_mem (List.mem_append_right _ (List.mem_append_left _ (List.mem_of_getElem? (i := 233) rfl))) rfl
theorem tw_271 : Cond.fieldLink "FewerLamps" 60 "FewerLamps" "hands" "LFewerLamps$Hands;" ∈ TB := tb_mem (List.mem_append_right _ (List.mem_append_left _ (List.mem_of_getElem? (i := 234) rfl))) rfl
theorem tw_272 : Cond.fieldLink "FewerLamps" 69 "FewerLamps" "kinds" "LFewerLamps$Kinds;" ∈ TB := tb_mem (List.mem_append_right _ (List.mem_append_left _ (List.mem_of_getElem? (i := 235) rfl))) rfl
theorem tw_273 : Cond.laysFinal "FewerLamps" "FewerLamps" "text" "LFewerLamps$Text;" ∈ TB := tb_mem (List.mem_append_right _ (List.mem_append_left _ (List.mem_of_getElem? (i := 236) rfl))) rfl
theorem tw_275 : Cond.laysFinal "FewerLamps" "FewerLamps" "reader" "LFewerLamps$Reader;" ∈ TB := tb_mem (List.mem_append_right _ (List.mem_append_left _ (List.mem_of_getElem? (i := 238) rfl))) rfl
theorem tw_277 : Cond.laysFinal "FewerLamps" "FewerLamps" "town" "LFewerLamps$Town;" ∈ TB := tb_mem (List.mem_append_right _ (List.mem_append_right _ (List.mem_append_left _ (List.mem_of_getElem? (i := 0) rfl)))) rfl
theorem tw_279 : Cond.laysFinal "FewerLamps" "FewerLamps" "present" "LFewerLamps$Present;" ∈ TB := tb_mem (List.mem_append_right _ (List.mem_append_right _ (List.mem_append_left _ (List.mem_of_getElem? (i := 2) rfl)))) rfl
theorem tw_281 : Cond.laysFinal "FewerLamps" "FewerLamps" "images" "[LFewerLamps$Present;" ∈ TB := tb_mem (List.mem_append_right _ (List.mem_append_right _ (List.mem_append_left _ (List.mem_of_getElem? (i := 4) rfl)))) rfl
theorem tw_283 : Cond.lays "FewerLamps" "FewerLamps" "keptImages" "I" ∈ TB := tb_mem (List.mem_append_right _ (List.mem_append_right _ (List.mem_append_left _ (List.mem_of_getElem? (i := 6) rfl)))) rfl
theorem tw_285 : Cond.laysFinal "FewerLamps" "FewerLamps" "work" "LFewerLamps$Bellwork;" ∈ TB := tb_mem (List.mem_append_right _ (List.mem_append_right _ (List.mem_append_left _ (List.mem_of_getElem? (i := 8) rfl)))) rfl
theorem tw_287 : Cond.laysFinal "FewerLamps" "FewerLamps" "trial" "LFewerLamps$Bellwork;" ∈ TB := tb_mem (List.mem_append_right _ (List.mem_append_right _ (List.mem_append_left _ (List.mem_of_getElem? (i := 10) rfl)))) rfl
theorem tw_289 : Cond.laysFinal "FewerLamps" "FewerLamps" "hands" "LFewerLamps$Hands;" ∈ TB := tb_mem (List.mem_append_right _ (List.mem_append_right _ (List.mem_append_left _ (List.mem_of_getElem? (i := 12) rfl)))) rfl
theorem tw_291 : Cond.laysFinal "FewerLamps" "FewerLamps" "kinds" "LFewerLamps$Kinds;" ∈ TB := tb_mem (List.mem_append_right _ (List.mem_append_right _ (List.mem_append_left _ (List.mem_of_getElem? (i := 14) rfl)))) rfl
theorem tw_294 : Cond.methodLink "FewerLampsLaw" 13 ⟨"FewerLamps", "type", "(I)I"⟩ ∈ TB := tb_mem (List.mem_append_right _ (List.mem_append_right _ (List.mem_append_left _ (List.mem_of_getElem? (i := 17) rfl)))) rfl
theorem tw_295 : Cond.instanceMethod ⟨"FewerLamps", "type", "(I)I"⟩ ∈ TB := tb_mem (List.mem_append_right _ (List.mem_append_right _ (List.mem_append_left _ (List.mem_of_getElem? (i := 18) rfl)))) rfl
theorem tw_296 : Cond.selects "FewerLamps" ⟨"FewerLamps", "type", "(I)I"⟩ ⟨"FewerLamps", "type", "(I)I"⟩ ∈ TB := tb_mem (List.mem_append_right _ (List.mem_append_right _ (List.mem_append_left _ (List.mem_of_getElem? (i := 19) rfl)))) rfl
theorem tw_297 : Cond.code ⟨"FewerLamps", "type", "(I)I"⟩ prog_1_method_2_code 2 (Option.some FieldType.int) ∈ TB := tb_mem (List.mem_append_right _ (List.mem_append_right _ (List.mem_append_left _ (List.mem_of_getElem? (i := 20) rfl)))) rfl
theorem tw_298 : Cond.methodLink "FewerLamps" 73 ⟨"FewerLamps$Text", "add", "(I)Z"⟩ ∈ TB := tb_mem (List.mem_append_right _ (List.mem_append_right _ (List.mem_append_left _ (List.mem_of_getElem? (i := 21) rfl)))) rfl
theorem tw_299 : Cond.instanceMethod ⟨"FewerLamps$Text", "add", "(I)Z"⟩ ∈ TB := tb_mem (List.mem_append_right _ (List.mem_append_right _ (List.mem_append_left _ (List.mem_of_getElem? (i := 22) rfl)))) rfl
theorem tw_300 : Cond.selects "FewerLamps$Text" ⟨"FewerLamps$Text", "add", "(I)Z"⟩ ⟨"FewerLamps$Text", "add", "(I)Z"⟩ ∈ TB := tb_mem (List.mem_append_right _ (List.mem_append_right _ (List.mem_append_left _ (List.mem_of_getElem? (i := 23) rfl)))) rfl
theorem tw_301 : Cond.code ⟨"FewerLamps$Text", "add", "(I)Z"⟩ prog_7_method_2_code 2 (Option.some FieldType.boolean) ∈ TB := tb_mem (List.mem_append_right _ (List.mem_append_right _ (List.mem_append_left _ (List.mem_of_getElem? (i := 24) rfl)))) rfl
theorem tw_302 : Cond.methodLink "FewerLampsLaw" 18 ⟨"FewerLamps", "clear", "()I"⟩ ∈ TB := tb_mem (List.mem_append_right _ (List.mem_append_right _ (List.mem_append_left _ (List.mem_of_getElem? (i := 25) rfl)))) rfl
theorem tw_303 : Cond.instanceMethod ⟨"FewerLamps", "clear", "()I"⟩ ∈ TB := tb_mem (List.mem_append_right _ (List.mem_append_right _ (List.mem_append_left _ (List.mem_of_getElem? (i := 26) rfl)))) rfl
theorem tw_304 : Cond.selects "FewerLamps" ⟨"FewerLamps", "clear", "()I"⟩ ⟨"FewerLamps", "clear", "()I"⟩ ∈ TB := tb_mem (List.mem_append_right _ (List.mem_append_right _ (List.mem_append_left _ (List.mem_of_getElem? (i := 27) rfl)))) rfl
theorem tw_305 : Cond.code ⟨"FewerLamps", "clear", "()I"⟩ prog_1_method_3_code 2 (Option.some FieldType.int) ∈ TB := tb_mem (List.mem_append_right _ (List.mem_append_right _ (List.mem_append_left _ (List.mem_of_getElem? (i := 28) rfl)))) rfl
theorem tw_306 : Cond.methodLink "FewerLampsLaw" 23 ⟨"FewerLamps", "town", "()I"⟩ ∈ TB := tb_mem (List.mem_append_right _ (List.mem_append_right _ (List.mem_append_left _ (List.mem_of_getElem? (i := 29) rfl)))) rfl
theorem tw_307 : Cond.instanceMethod ⟨"FewerLamps", "town", "()I"⟩ ∈ TB := tb_mem (List.mem_append_right _ (List.mem_append_right _ (List.mem_append_left _ (List.mem_of_getElem? (i := 30) rfl)))) rfl
theorem tw_308 : Cond.selects "FewerLamps" ⟨"FewerLamps", "town", "()I"⟩ ⟨"FewerLamps", "town", "()I"⟩ ∈ TB := tb_mem (List.mem_append_right _ (List.mem_append_right _ (List.mem_append_left _ (List.mem_of_getElem? (i := 31) rfl)))) rfl
theorem tw_309 : Cond.code ⟨"FewerLamps", "town", "()I"⟩ prog_1_method_4_code 1 (Option.some FieldType.int) ∈ TB := tb_mem (List.mem_append_right _ (List.mem_append_right _ (List.mem_append_left _ (List.mem_of_getElem? (i := 32) rfl)))) rfl
theorem tw_310 : Cond.methodLink "FewerLamps" 81 ⟨"FewerLamps$Reader", "read", "()Z"⟩ ∈ TB := tb_mem (List.mem_append_right _ (List.mem_append_right _ (List.mem_append_left _ (List.mem_of_getElem? (i := 33) rfl)))) rfl
theorem tw_311 : Cond.instanceMethod ⟨"FewerLamps$Reader", "read", "()Z"⟩ ∈ TB := tb_mem (List.mem_append_right _ (List.mem_append_right _ (List.mem_append_left _ (List.mem_of_getElem? (i := 34) rfl)))) rfl
theorem tw_312 : Cond.selects "FewerLamps$Reader" ⟨"FewerLamps$Reader", "read", "()Z"⟩ ⟨"FewerLamps$Reader", "read", "()Z"⟩ ∈ TB := tb_mem (List.mem_append_right _ (List.mem_append_right _ (List.mem_append_left _ (List.mem_of_getElem? (i := 35) rfl)))) rfl
theorem tw_313 : Cond.code ⟨"FewerLamps$Reader", "read", "()Z"⟩ prog_6_method_2_code 2 (Option.some FieldType.boolean) ∈ TB := tb_mem (List.mem_append_right _ (List.mem_append_right _ (List.mem_append_left _ (List.mem_of_getElem? (i := 36) rfl)))) rfl
theorem tw_314 : Cond.methodLink "FewerLamps$Reader" 26 ⟨"FewerLamps$Town", "empty", "()V"⟩ ∈ TB := tb_mem (List.mem_append_right _ (List.mem_append_right _ (List.mem_append_left _ (List.mem_of_getElem? (i := 37) rfl)))) rfl
theorem tw_315 : Cond.instanceMethod ⟨"FewerLamps$Town", "empty", "()V"⟩ ∈ TB := tb_mem (List.mem_append_right _ (List.mem_append_right _ (List.mem_append_left _ (List.mem_of_getElem? (i := 38) rfl)))) rfl
theorem tw_316 : Cond.selects "FewerLamps$Town" ⟨"FewerLamps$Town", "empty", "()V"⟩ ⟨"FewerLamps$Town", "empty", "()V"⟩ ∈ TB := tb_mem (List.mem_append_right _ (List.mem_append_right _ (List.mem_append_left _ (List.mem_of_getElem? (i := 39) rfl)))) rfl
theorem tw_317 : Cond.code ⟨"FewerLamps$Town", "empty", "()V"⟩ prog_8_method_7_code 1 (Option.none : Option FieldType) ∈ TB := tb_mem (List.mem_append_right _ (List.mem_append_right _ (List.mem_append_left _ (List.mem_of_getElem? (i := 40) rfl)))) rfl
theorem tw_318 : Cond.methodLink "FewerLamps$Town" 42 ⟨"java/util/Arrays", "fill", "([II)V"⟩ ∈ TB := tb_mem (List.mem_append_right _ (List.mem_append_right _ (List.mem_append_left _ (List.mem_of_getElem? (i := 41) rfl)))) rfl
theorem tw_319 : Cond.static ⟨"java/util/Arrays", "fill", "([II)V"⟩ ∈ TB := tb_mem (List.mem_append_right _ (List.mem_append_right _ (List.mem_append_left _ (List.mem_of_getElem? (i := 42) rfl)))) rfl
theorem tw_320 : Cond.code ⟨"java/util/Arrays", "fill", "([II)V"⟩ prog_14_method_103_code 4 (Option.none : Option FieldType) ∈ TB := tb_mem (List.mem_append_right _ (List.mem_append_right _ (List.mem_append_left _ (List.mem_of_getElem? (i := 43) rfl)))) rfl
theorem tw_321 : Cond.methodLink "FewerLamps$Reader" 29 ⟨"FewerLamps$Reader", "nextToken", "()V"⟩ ∈ TB := tb_mem (List.mem_append_right _ (List.mem_append_right _ (List.mem_append_left _ (List.mem_of_getElem? (i := 44) rfl)))) rfl
theorem tw_323 : Cond.instanceMethod ⟨"FewerLamps$Reader", "nextToken", "()V"⟩ ∈ TB := tb_mem (List.mem_append_right _ (List.mem_append_right _ (List.mem_append_left _ (List.mem_of_getElem? (i := 46) rfl)))) rfl
theorem tw_324 : Cond.code ⟨"FewerLamps$Reader", "nextToken", "()V"⟩ prog_6_method_8_code 2 (Option.none : Option FieldType) ∈ TB := tb_mem (List.mem_append_right _ (List.mem_append_right _ (List.mem_append_left _ (List.mem_of_getElem? (i := 47) rfl)))) rfl
theorem tw_325 : Cond.methodLink "FewerLamps$Reader" 77 ⟨"FewerLamps$Text", "at", "(I)I"⟩ ∈ TB := tb_mem (List.mem_append_right _ (List.mem_append_right _ (List.mem_append_left _ (List.mem_of_getElem? (i := 48) rfl)))) rfl
theorem tw_326 : Cond.instanceMethod ⟨"FewerLamps$Text", "at", "(I)I"⟩ ∈ TB := tb_mem (List.mem_append_right _ (List.mem_append_right _ (List.mem_append_left _ (List.mem_of_getElem? (i := 49) rfl)))) rfl
theorem tw_327 : Cond.selects "FewerLamps$Text" ⟨"FewerLamps$Text", "at", "(I)I"⟩ ⟨"FewerLamps$Text", "at", "(I)I"⟩ ∈ TB := tb_mem (List.mem_append_right _ (List.mem_append_right _ (List.mem_append_left _ (List.mem_of_getElem? (i := 50) rfl)))) rfl
theorem tw_328 : Cond.code ⟨"FewerLamps$Text", "at", "(I)I"⟩ prog_7_method_3_code 2 (Option.some FieldType.int) ∈ TB := tb_mem (List.mem_append_right _ (List.mem_append_right _ (List.mem_append_left _ (List.mem_of_getElem? (i := 51) rfl)))) rfl
theorem tw_329 : Cond.methodLink "FewerLamps$Reader" 84 ⟨"FewerLamps$Reader", "isLetter", "(I)Z"⟩ ∈ TB := tb_mem (List.mem_append_right _ (List.mem_append_right _ (List.mem_append_left _ (List.mem_of_getElem? (i := 52) rfl)))) rfl
theorem tw_330 : Cond.static ⟨"FewerLamps$Reader", "isLetter", "(I)Z"⟩ ∈ TB := tb_mem (List.mem_append_right _ (List.mem_append_right _ (List.mem_append_left _ (List.mem_of_getElem? (i := 53) rfl)))) rfl
theorem tw_331 : Cond.code ⟨"FewerLamps$Reader", "isLetter", "(I)Z"⟩ prog_6_method_11_code 1 (Option.some FieldType.boolean) ∈ TB := tb_mem (List.mem_append_right _ (List.mem_append_right _ (List.mem_append_left _ (List.mem_of_getElem? (i := 54) rfl)))) rfl
theorem tw_332 : Cond.methodLink "FewerLamps$Reader" 87 ⟨"FewerLamps$Reader", "takeLetters", "()V"⟩ ∈ TB := tb_mem (List.mem_append_right _ (List.mem_append_right _ (List.mem_append_left _ (List.mem_of_getElem? (i := 55) rfl)))) rfl
theorem tw_334 : Cond.instanceMethod ⟨"FewerLamps$Reader", "takeLetters", "()V"⟩ ∈ TB := tb_mem (List.mem_append_right _ (List.mem_append_right _ (List.mem_append_left _ (List.mem_of_getElem? (i := 57) rfl)))) rfl
theorem tw_335 : Cond.code ⟨"FewerLamps$Reader", "takeLetters", "()V"⟩ prog_6_method_9_code 1 (Option.none : Option FieldType) ∈ TB := tb_mem (List.mem_append_right _ (List.mem_append_right _ (List.mem_append_left _ (List.mem_of_getElem? (i := 58) rfl)))) rfl
theorem tw_336 : Cond.methodLink "FewerLamps$Reader" 90 ⟨"FewerLamps$Reader", "isDigit", "(I)Z"⟩ ∈ TB := tb_mem (List.mem_append_right _ (List.mem_append_right _ (List.mem_append_left _ (List.mem_of_getElem? (i := 59) rfl)))) rfl
theorem tw_337 : Cond.static ⟨"FewerLamps$Reader", "isDigit", "(I)Z"⟩ ∈ TB := tb_mem (List.mem_append_right _ (List.mem_append_right _ (List.mem_append_left _ (List.mem_of_getElem? (i := 60) rfl)))) rfl
theorem tw_338 : Cond.code ⟨"FewerLamps$Reader", "isDigit", "(I)Z"⟩ prog_6_method_12_code 1 (Option.some FieldType.boolean) ∈ TB := tb_mem (List.mem_append_right _ (List.mem_append_right _ (List.mem_append_left _ (List.mem_of_getElem? (i := 61) rfl)))) rfl
theorem tw_339 : Cond.methodLink "FewerLamps$Reader" 93 ⟨"FewerLamps$Reader", "takeDigits", "()V"⟩ ∈ TB := tb_mem (List.mem_append_right _ (List.mem_append_right _ (List.mem_append_left _ (List.mem_of_getElem? (i := 62) rfl)))) rfl
theorem tw_341 : Cond.instanceMethod ⟨"FewerLamps$Reader", "takeDigits", "()V"⟩ ∈ TB := tb_mem (List.mem_append_right _ (List.mem_append_right _ (List.mem_append_left _ (List.mem_of_getElem? (i := 64) rfl)))) rfl
theorem tw_342 : Cond.code ⟨"FewerLamps$Reader", "takeDigits", "()V"⟩ prog_6_method_10_code 2 (Option.none : Option FieldType) ∈ TB := tb_mem (List.mem_append_right _ (List.mem_append_right _ (List.mem_append_left _ (List.mem_of_getElem? (i := 65) rfl)))) rfl
theorem tw_343 : Cond.methodLink "FewerLamps$Reader" 96 ⟨"java/lang/Math", "min", "(II)I"⟩ ∈ TB := tb_mem (List.mem_append_right _ (List.mem_append_right _ (List.mem_append_left _ (List.mem_of_getElem? (i := 66) rfl)))) rfl
theorem tw_344 : Cond.static ⟨"java/lang/Math", "min", "(II)I"⟩ ∈ TB := tb_mem (List.mem_append_right _ (List.mem_append_right _ (List.mem_append_left _ (List.mem_of_getElem? (i := 67) rfl)))) rfl
theorem tw_345 : Cond.code ⟨"java/lang/Math", "min", "(II)I"⟩ prog_12_method_69_code 2 (Option.some FieldType.int) ∈ TB := tb_mem (List.mem_append_right _ (List.mem_append_right _ (List.mem_append_left _ (List.mem_of_getElem? (i := 68) rfl)))) rfl
theorem tw_346 : Cond.methodLink "FewerLamps$Reader" 35 ⟨"FewerLamps$Reader", "readItem", "()Z"⟩ ∈ TB := tb_mem (List.mem_append_right _ (List.mem_append_right _ (List.mem_append_left _ (List.mem_of_getElem? (i := 69) rfl)))) rfl
theorem tw_348 : Cond.instanceMethod ⟨"FewerLamps$Reader", "readItem", "()Z"⟩ ∈ TB := tb_mem (List.mem_append_right _ (List.mem_append_right _ (List.mem_append_left _ (List.mem_of_getElem? (i := 71) rfl)))) rfl
theorem tw_349 : Cond.code ⟨"FewerLamps$Reader", "readItem", "()Z"⟩ prog_6_method_3_code 1 (Option.some FieldType.boolean) ∈ TB := tb_mem (List.mem_append_right _ (List.mem_append_right _ (List.mem_append_left _ (List.mem_of_getElem? (i := 72) rfl)))) rfl
theorem tw_350 : Cond.methodLink "FewerLamps$Reader" 45 ⟨"FewerLamps$Reader", "readLamp", "()Z"⟩ ∈ TB := tb_mem (List.mem_append_right _ (List.mem_append_right _ (List.mem_append_left _ (List.mem_of_getElem? (i := 73) rfl)))) rfl
theorem tw_352 : Cond.instanceMethod ⟨"FewerLamps$Reader", "readLamp", "()Z"⟩ ∈ TB := tb_mem (List.mem_append_right _ (List.mem_append_right _ (List.mem_append_left _ (List.mem_of_getElem? (i := 75) rfl)))) rfl
theorem tw_353 : Cond.code ⟨"FewerLamps$Reader", "readLamp", "()Z"⟩ prog_6_method_4_code 3 (Option.some FieldType.boolean) ∈ TB := tb_mem (List.mem_append_right _ (List.mem_append_right _ (List.mem_append_left _ (List.mem_of_getElem? (i := 76) rfl)))) rfl
theorem tw_354 : Cond.methodLink "FewerLamps$Reader" 54 ⟨"FewerLamps$Reader", "readNumber", "(I)Z"⟩ ∈ TB := tb_mem (List.mem_append_right _ (List.mem_append_right _ (List.mem_append_left _ (List.mem_of_getElem? (i := 77) rfl)))) rfl
theorem tw_356 : Cond.instanceMethod ⟨"FewerLamps$Reader", "readNumber", "(I)Z"⟩ ∈ TB := tb_mem (List.mem_append_right _ (List.mem_append_right _ (List.mem_append_left _ (List.mem_of_getElem? (i := 79) rfl)))) rfl
theorem tw_357 : Cond.code ⟨"FewerLamps$Reader", "readNumber", "(I)Z"⟩ prog_6_method_6_code 2 (Option.some FieldType.boolean) ∈ TB := tb_mem (List.mem_append_right _ (List.mem_append_right _ (List.mem_append_left _ (List.mem_of_getElem? (i := 80) rfl)))) rfl
theorem tw_358 : Cond.methodLink "FewerLamps$Reader" 58 ⟨"FewerLamps$Reader", "readSemicolon", "()Z"⟩ ∈ TB := tb_mem (List.mem_append_right _ (List.mem_append_right _ (List.mem_append_left _ (List.mem_of_getElem? (i := 81) rfl)))) rfl
theorem tw_360 : Cond.instanceMethod ⟨"FewerLamps$Reader", "readSemicolon", "()Z"⟩ ∈ TB := tb_mem (List.mem_append_right _ (List.mem_append_right _ (List.mem_append_left _ (List.mem_of_getElem? (i := 83) rfl)))) rfl
theorem tw_361 : Cond.code ⟨"FewerLamps$Reader", "readSemicolon", "()Z"⟩ prog_6_method_7_code 1 (Option.some FieldType.boolean) ∈ TB := tb_mem (List.mem_append_right _ (List.mem_append_right _ (List.mem_append_left _ (List.mem_of_getElem? (i := 84) rfl)))) rfl
theorem tw_362 : Cond.methodLink "FewerLamps$Reader" 61 ⟨"FewerLamps$Town", "addLamp", "(II)V"⟩ ∈ TB := tb_mem (List.mem_append_right _ (List.mem_append_right _ (List.mem_append_left _ (List.mem_of_getElem? (i := 85) rfl)))) rfl
theorem tw_363 : Cond.instanceMethod ⟨"FewerLamps$Town", "addLamp", "(II)V"⟩ ∈ TB := tb_mem (List.mem_append_right _ (List.mem_append_right _ (List.mem_append_left _ (List.mem_of_getElem? (i := 86) rfl)))) rfl
theorem tw_364 : Cond.selects "FewerLamps$Town" ⟨"FewerLamps$Town", "addLamp", "(II)V"⟩ ⟨"FewerLamps$Town", "addLamp", "(II)V"⟩ ∈ TB := tb_mem (List.mem_append_right _ (List.mem_append_right _ (List.mem_append_left _ (List.mem_of_getElem? (i := 87) rfl)))) rfl
theorem tw_365 : Cond.code ⟨"FewerLamps$Town", "addLamp", "(II)V"⟩ prog_8_method_8_code 3 (Option.none : Option FieldType) ∈ TB := tb_mem (List.mem_append_right _ (List.mem_append_right _ (List.mem_append_left _ (List.mem_of_getElem? (i := 88) rfl)))) rfl
theorem tw_366 : Cond.methodLink "FewerLamps$Reader" 51 ⟨"FewerLamps$Reader", "readStreet", "()Z"⟩ ∈ TB := tb_mem (List.mem_append_right _ (List.mem_append_right _ (List.mem_append_left _ (List.mem_of_getElem? (i := 89) rfl)))) rfl
theorem tw_368 : Cond.instanceMethod ⟨"FewerLamps$Reader", "readStreet", "()Z"⟩ ∈ TB := tb_mem (List.mem_append_right _ (List.mem_append_right _ (List.mem_append_left _ (List.mem_of_getElem? (i := 91) rfl)))) rfl
theorem tw_369 : Cond.code ⟨"FewerLamps$Reader", "readStreet", "()Z"⟩ prog_6_method_5_code 3 (Option.some FieldType.boolean) ∈ TB := tb_mem (List.mem_append_right _ (List.mem_append_right _ (List.mem_append_left _ (List.mem_of_getElem? (i := 92) rfl)))) rfl
theorem tw_370 : Cond.methodLink "FewerLamps$Reader" 65 ⟨"FewerLamps$Town", "isJoined", "(II)Z"⟩ ∈ TB := tb_mem (List.mem_append_right _ (List.mem_append_right _ (List.mem_append_left _ (List.mem_of_getElem? (i := 93) rfl)))) rfl
theorem tw_371 : Cond.instanceMethod ⟨"FewerLamps$Town", "isJoined", "(II)Z"⟩ ∈ TB := tb_mem (List.mem_append_right _ (List.mem_append_right _ (List.mem_append_left _ (List.mem_of_getElem? (i := 94) rfl)))) rfl
theorem tw_372 : Cond.selects "FewerLamps$Town" ⟨"FewerLamps$Town", "isJoined", "(II)Z"⟩ ⟨"FewerLamps$Town", "isJoined", "(II)Z"⟩ ∈ TB := tb_mem (List.mem_append_right _ (List.mem_append_right _ (List.mem_append_left _ (List.mem_of_getElem? (i := 95) rfl)))) rfl
theorem tw_373 : Cond.code ⟨"FewerLamps$Town", "isJoined", "(II)Z"⟩ prog_8_method_6_code 3 (Option.some FieldType.boolean) ∈ TB := tb_mem (List.mem_append_right _ (List.mem_append_right _ (List.mem_append_left _ (List.mem_of_getElem? (i := 96) rfl)))) rfl
theorem tw_374 : Cond.methodLink "FewerLamps$Town" 35 ⟨"FewerLamps$Town", "isLamp", "(I)Z"⟩ ∈ TB := tb_mem (List.mem_append_right _ (List.mem_append_right _ (List.mem_append_left _ (List.mem_of_getElem? (i := 97) rfl)))) rfl
theorem tw_375 : Cond.instanceMethod ⟨"FewerLamps$Town", "isLamp", "(I)Z"⟩ ∈ TB := tb_mem (List.mem_append_right _ (List.mem_append_right _ (List.mem_append_left _ (List.mem_of_getElem? (i := 98) rfl)))) rfl
theorem tw_376 : Cond.selects "FewerLamps$Town" ⟨"FewerLamps$Town", "isLamp", "(I)Z"⟩ ⟨"FewerLamps$Town", "isLamp", "(I)Z"⟩ ∈ TB := tb_mem (List.mem_append_right _ (List.mem_append_right _ (List.mem_append_left _ (List.mem_of_getElem? (i := 99) rfl)))) rfl
theorem tw_377 : Cond.code ⟨"FewerLamps$Town", "isLamp", "(I)Z"⟩ prog_8_method_2_code 2 (Option.some FieldType.boolean) ∈ TB := tb_mem (List.mem_append_right _ (List.mem_append_right _ (List.mem_append_left _ (List.mem_of_getElem? (i := 100) rfl)))) rfl
theorem tw_378 : Cond.methodLink "FewerLamps$Reader" 69 ⟨"FewerLamps$Town", "addStreet", "(II)V"⟩ ∈ TB := tb_mem (List.mem_append_right _ (List.mem_append_right _ (List.mem_append_left _ (List.mem_of_getElem? (i := 101) rfl)))) rfl
theorem tw_379 : Cond.instanceMethod ⟨"FewerLamps$Town", "addStreet", "(II)V"⟩ ∈ TB := tb_mem (List.mem_append_right _ (List.mem_append_right _ (List.mem_append_left _ (List.mem_of_getElem? (i := 102) rfl)))) rfl
theorem tw_380 : Cond.selects "FewerLamps$Town" ⟨"FewerLamps$Town", "addStreet", "(II)V"⟩ ⟨"FewerLamps$Town", "addStreet", "(II)V"⟩ ∈ TB := tb_mem (List.mem_append_right _ (List.mem_append_right _ (List.mem_append_left _ (List.mem_of_getElem? (i := 103) rfl)))) rfl
theorem tw_381 : Cond.code ⟨"FewerLamps$Town", "addStreet", "(II)V"⟩ prog_8_method_9_code 3 (Option.none : Option FieldType) ∈ TB := tb_mem (List.mem_append_right _ (List.mem_append_right _ (List.mem_append_left _ (List.mem_of_getElem? (i := 104) rfl)))) rfl
theorem tw_382 : Cond.methodLink "FewerLamps$Town" 48 ⟨"java/lang/Math", "min", "(II)I"⟩ ∈ TB := tb_mem (List.mem_append_right _ (List.mem_append_right _ (List.mem_append_left _ (List.mem_of_getElem? (i := 105) rfl)))) rfl
theorem tw_383 : Cond.methodLink "FewerLamps$Town" 54 ⟨"java/lang/Math", "max", "(II)I"⟩ ∈ TB := tb_mem (List.mem_append_right _ (List.mem_append_right _ (List.mem_append_left _ (List.mem_of_getElem? (i := 106) rfl)))) rfl
theorem tw_384 : Cond.static ⟨"java/lang/Math", "max", "(II)I"⟩ ∈ TB := tb_mem (List.mem_append_right _ (List.mem_append_right _ (List.mem_append_left _ (List.mem_of_getElem? (i := 107) rfl)))) rfl
theorem tw_385 : Cond.code ⟨"java/lang/Math", "max", "(II)I"⟩ prog_12_method_65_code 2 (Option.some FieldType.int) ∈ TB := tb_mem (List.mem_append_right _ (List.mem_append_right _ (List.mem_append_left _ (List.mem_of_getElem? (i := 108) rfl)))) rfl
theorem tw_386 : Cond.methodLink "FewerLamps" 91 ⟨"FewerLamps$Town", "take", "(LFewerLamps$Town;)V"⟩ ∈ TB := tb_mem (List.mem_append_right _ (List.mem_append_right _ (List.mem_append_left _ (List.mem_of_getElem? (i := 109) rfl)))) rfl
theorem tw_387 : Cond.instanceMethod ⟨"FewerLamps$Town", "take", "(LFewerLamps$Town;)V"⟩ ∈ TB := tb_mem (List.mem_append_right _ (List.mem_append_right _ (List.mem_append_left _ (List.mem_of_getElem? (i := 110) rfl)))) rfl
theorem tw_388 : Cond.selects "FewerLamps$Town" ⟨"FewerLamps$Town", "take", "(LFewerLamps$Town;)V"⟩ ⟨"FewerLamps$Town", "take", "(LFewerLamps$Town;)V"⟩ ∈ TB := tb_mem (List.mem_append_right _ (List.mem_append_right _ (List.mem_append_left _ (List.mem_of_getElem? (i := 111) rfl)))) rfl
theorem tw_389 : Cond.code ⟨"FewerLamps$Town", "take", "(LFewerLamps$Town;)V"⟩ prog_8_method_10_code 2 (Option.none : Option FieldType) ∈ TB := tb_mem (List.mem_append_right _ (List.mem_append_right _ (List.mem_append_left _ (List.mem_of_getElem? (i := 112) rfl)))) rfl
theorem tw_390 : Cond.methodLink "FewerLamps$Town" 57 ⟨"java/lang/System", "arraycopy", "(Ljava/lang/Object;ILjava/lang/Object;II)V"⟩ ∈ TB := tb_mem (List.mem_append_right _ (List.mem_append_right _ (List.mem_append_left _ (List.mem_of_getElem? (i := 113) rfl)))) rfl
theorem tw_391 : Cond.static ⟨"java/lang/System", "arraycopy", "(Ljava/lang/Object;ILjava/lang/Object;II)V"⟩ ∈ TB := tb_mem (List.mem_append_right _ (List.mem_append_right _ (List.mem_append_left _ (List.mem_of_getElem? (i := 114) rfl)))) rfl
theorem tw_392 : Cond.native ⟨"java/lang/System", "arraycopy", "(Ljava/lang/Object;ILjava/lang/Object;II)V"⟩ ∈ TB := tb_mem (List.mem_append_right _ (List.mem_append_right _ (List.mem_append_left _ (List.mem_of_getElem? (i := 115) rfl)))) rfl
theorem tw_393 : Cond.methodLink "FewerLamps" 94 ⟨"FewerLamps$Bellwork", "forget", "()V"⟩ ∈ TB := tb_mem (List.mem_append_right _ (List.mem_append_right _ (List.mem_append_left _ (List.mem_of_getElem? (i := 116) rfl)))) rfl
theorem tw_394 : Cond.instanceMethod ⟨"FewerLamps$Bellwork", "forget", "()V"⟩ ∈ TB := tb_mem (List.mem_append_right _ (List.mem_append_right _ (List.mem_append_left _ (List.mem_of_getElem? (i := 117) rfl)))) rfl
theorem tw_395 : Cond.selects "FewerLamps$Bellwork" ⟨"FewerLamps$Bellwork", "forget", "()V"⟩ ⟨"FewerLamps$Bellwork", "forget", "()V"⟩ ∈ TB := tb_mem (List.mem_append_right _ (List.mem_append_right _ (List.mem_append_left _ (List.mem_of_getElem? (i := 118) rfl)))) rfl
theorem tw_396 : Cond.code ⟨"FewerLamps$Bellwork", "forget", "()V"⟩ prog_2_method_2_code 1 (Option.none : Option FieldType) ∈ TB := tb_mem (List.mem_append_right _ (List.mem_append_right _ (List.mem_append_left _ (List.mem_of_getElem? (i := 119) rfl)))) rfl
theorem tw_397 : Cond.methodLink "FewerLamps" 100 ⟨"FewerLamps$Present", "begin", "(I)V"⟩ ∈ TB := tb_mem (List.mem_append_right _ (List.mem_append_right _ (List.mem_append_left _ (List.mem_of_getElem? (i := 120) rfl)))) rfl
theorem tw_398 : Cond.instanceMethod ⟨"FewerLamps$Present", "begin", "(I)V"⟩ ∈ TB := tb_mem (List.mem_append_right _ (List.mem_append_right _ (List.mem_append_left _ (List.mem_of_getElem? (i := 121) rfl)))) rfl
theorem tw_399 : Cond.selects "FewerLamps$Present" ⟨"FewerLamps$Present", "begin", "(I)V"⟩ ⟨"FewerLamps$Present", "begin", "(I)V"⟩ ∈ TB := tb_mem (List.mem_append_right _ (List.mem_append_right _ (List.mem_append_left _ (List.mem_of_getElem? (i := 122) rfl)))) rfl
theorem tw_400 : Cond.code ⟨"FewerLamps$Present", "begin", "(I)V"⟩ prog_5_method_2_code 2 (Option.none : Option FieldType) ∈ TB := tb_mem (List.mem_append_right _ (List.mem_append_right _ (List.mem_append_left _ (List.mem_of_getElem? (i := 123) rfl)))) rfl
theorem tw_401 : Cond.methodLink "FewerLampsLaw" 27 ⟨"FewerLamps", "lamp", "(II)I"⟩ ∈ TB := tb_mem (List.mem_append_right _ (List.mem_append_right _ (List.mem_append_left _ (List.mem_of_getElem? (i := 124) rfl)))) rfl
theorem tw_402 : Cond.instanceMethod ⟨"FewerLamps", "lamp", "(II)I"⟩ ∈ TB := tb_mem (List.mem_append_right _ (List.mem_append_right _ (List.mem_append_left _ (List.mem_of_getElem? (i := 125) rfl)))) rfl
theorem tw_403 : Cond.selects "FewerLamps" ⟨"FewerLamps", "lamp", "(II)I"⟩ ⟨"FewerLamps", "lamp", "(II)I"⟩ ∈ TB := tb_mem (List.mem_append_right _ (List.mem_append_right _ (List.mem_append_left _ (List.mem_of_getElem? (i := 126) rfl)))) rfl
theorem tw_404 : Cond.code ⟨"FewerLamps", "lamp", "(II)I"⟩ prog_1_method_5_code 3 (Option.some FieldType.int) ∈ TB := tb_mem (List.mem_append_right _ (List.mem_append_right _ (List.mem_append_left _ (List.mem_of_getElem? (i := 127) rfl)))) rfl
theorem tw_405 : Cond.methodLink "FewerLamps" 113 ⟨"FewerLamps$Town", "isLamp", "(I)Z"⟩ ∈ TB := tb_mem (List.mem_append_right _ (List.mem_append_right _ (List.mem_append_left _ (List.mem_of_getElem? (i := 128) rfl)))) rfl
theorem tw_406 : Cond.methodLink "FewerLamps" 126 ⟨"java/lang/Integer", "bitCount", "(I)I"⟩ ∈ TB := tb_mem (List.mem_append_right _ (List.mem_append_right _ (List.mem_append_left _ (List.mem_of_getElem? (i := 129) rfl)))) rfl
theorem tw_407 : Cond.static ⟨"java/lang/Integer", "bitCount", "(I)I"⟩ ∈ TB := tb_mem (List.mem_append_right _ (List.mem_append_right _ (List.mem_append_left _ (List.mem_of_getElem? (i := 130) rfl)))) rfl
theorem tw_408 : Cond.code ⟨"java/lang/Integer", "bitCount", "(I)I"⟩ prog_11_method_49_code 1 (Option.some FieldType.int) ∈ TB := tb_mem (List.mem_append_right _ (List.mem_append_right _ (List.mem_append_left _ (List.mem_of_getElem? (i := 131) rfl)))) rfl
theorem tw_409 : Cond.constant "java/lang/Integer" 265 (1431655765 : Int32) ∈ TB := tb_mem (List.mem_append_right _ (List.mem_append_right _ (List.mem_append_left _ (List.mem_of_getElem? (i := 132) rfl)))) rfl
theorem tw_410 : Cond.constant "java/lang/Integer" 266 (858993459 : Int32) ∈ TB := tb_mem (List.mem_append_right _ (List.mem_append_right _ (List.mem_append_left _ (List.mem_of_getElem? (i := 133) rfl)))) rfl
theorem tw_411 : Cond.constant "java/lang/Integer" 267 (252645135 : Int32) ∈ TB := tb_mem (List.mem_append_right _ (List.mem_append_right _ (List.mem_append_left _ (List.mem_of_getElem? (i := 134) rfl)))) rfl
theorem tw_412 : Cond.methodLink "FewerLamps" 132 ⟨"FewerLamps", "workNow", "()LFewerLamps$Bellwork;"⟩ ∈ TB := tb_mem (List.mem_append_right _ (List.mem_append_right _ (List.mem_append_left _ (List.mem_of_getElem? (i := 135) rfl)))) rfl
theorem tw_414 : Cond.instanceMethod ⟨"FewerLamps", "workNow", "()LFewerLamps$Bellwork;"⟩ ∈ TB := tb_mem (List.mem_append_right _ (List.mem_append_right _ (List.mem_append_left _ (List.mem_of_getElem? (i := 137) rfl)))) rfl
theorem tw_415 : Cond.code ⟨"FewerLamps", "workNow", "()LFewerLamps$Bellwork;"⟩ prog_1_method_29_code 1 (Option.some (FieldType.object "FewerLamps$Bellwork")) ∈ TB := tb_mem (List.mem_append_right _ (List.mem_append_right _ (List.mem_append_left _ (List.mem_of_getElem? (i := 138) rfl)))) rfl
theorem tw_416 : Cond.methodLink "FewerLamps" 244 ⟨"FewerLamps$Bellwork", "lay", "(I)V"⟩ ∈ TB := tb_mem (List.mem_append_right _ (List.mem_append_right _ (List.mem_append_left _ (List.mem_of_getElem? (i := 139) rfl)))) rfl
theorem tw_417 : Cond.instanceMethod ⟨"FewerLamps$Bellwork", "lay", "(I)V"⟩ ∈ TB := tb_mem (List.mem_append_right _ (List.mem_append_right _ (List.mem_append_left _ (List.mem_of_getElem? (i := 140) rfl)))) rfl
theorem tw_418 : Cond.selects "FewerLamps$Bellwork" ⟨"FewerLamps$Bellwork", "lay", "(I)V"⟩ ⟨"FewerLamps$Bellwork", "lay", "(I)V"⟩ ∈ TB := tb_mem (List.mem_append_right _ (List.mem_append_right _ (List.mem_append_left _ (List.mem_of_getElem? (i := 141) rfl)))) rfl
theorem tw_419 : Cond.code ⟨"FewerLamps$Bellwork", "lay", "(I)V"⟩ prog_2_method_3_code 3 (Option.none : Option FieldType) ∈ TB := tb_mem (List.mem_append_right _ (List.mem_append_right _ (List.mem_append_left _ (List.mem_of_getElem? (i := 142) rfl)))) rfl
theorem tw_420 : Cond.methodLink "FewerLamps$Bellwork" 33 ⟨"java/util/Arrays", "fill", "([II)V"⟩ ∈ TB := tb_mem (List.mem_append_right _ (List.mem_append_right _ (List.mem_append_left _ (List.mem_of_getElem? (i := 143) rfl)))) rfl
theorem tw_421 : Cond.methodLink "FewerLamps$Bellwork" 44 ⟨"java/lang/System", "arraycopy", "(Ljava/lang/Object;ILjava/lang/Object;II)V"⟩ ∈ TB := tb_mem (List.mem_append_right _ (List.mem_append_right _ (List.mem_append_left _ (List.mem_of_getElem? (i := 144) rfl)))) rfl
theorem tw_422 : Cond.methodLink "FewerLampsLaw" 32 ⟨"FewerLamps", "street", "(II)I"⟩ ∈ TB := tb_mem (List.mem_append_right _ (List.mem_append_right _ (List.mem_append_left _ (List.mem_of_getElem? (i := 145) rfl)))) rfl
theorem tw_423 : Cond.instanceMethod ⟨"FewerLamps", "street", "(II)I"⟩ ∈ TB := tb_mem (List.mem_append_right _ (List.mem_append_right _ (List.mem_append_left _ (List.mem_of_getElem? (i := 146) rfl)))) rfl
theorem tw_424 : Cond.selects "FewerLamps" ⟨"FewerLamps", "street", "(II)I"⟩ ⟨"FewerLamps", "street", "(II)I"⟩ ∈ TB := tb_mem (List.mem_append_right _ (List.mem_append_right _ (List.mem_append_left _ (List.mem_of_getElem? (i := 147) rfl)))) rfl
theorem tw_425 : Cond.code ⟨"FewerLamps", "street", "(II)I"⟩ prog_1_method_6_code 3 (Option.some FieldType.int) ∈ TB := tb_mem (List.mem_append_right _ (List.mem_append_right _ (List.mem_append_left _ (List.mem_of_getElem? (i := 148) rfl)))) rfl
theorem tw_426 : Cond.methodLink "FewerLamps" 139 ⟨"FewerLamps$Town", "isStreet", "(I)Z"⟩ ∈ TB := tb_mem (List.mem_append_right _ (List.mem_append_right _ (List.mem_append_left _ (List.mem_of_getElem? (i := 149) rfl)))) rfl
theorem tw_427 : Cond.instanceMethod ⟨"FewerLamps$Town", "isStreet", "(I)Z"⟩ ∈ TB := tb_mem (List.mem_append_right _ (List.mem_append_right _ (List.mem_append_left _ (List.mem_of_getElem? (i := 150) rfl)))) rfl
theorem tw_428 : Cond.selects "FewerLamps$Town" ⟨"FewerLamps$Town", "isStreet", "(I)Z"⟩ ⟨"FewerLamps$Town", "isStreet", "(I)Z"⟩ ∈ TB := tb_mem (List.mem_append_right _ (List.mem_append_right _ (List.mem_append_left _ (List.mem_of_getElem? (i := 151) rfl)))) rfl
theorem tw_429 : Cond.code ⟨"FewerLamps$Town", "isStreet", "(I)Z"⟩ prog_8_method_3_code 2 (Option.some FieldType.boolean) ∈ TB := tb_mem (List.mem_append_right _ (List.mem_append_right _ (List.mem_append_left _ (List.mem_of_getElem? (i := 152) rfl)))) rfl
theorem tw_430 : Cond.methodLink "FewerLampsLaw" 36 ⟨"FewerLamps", "bell", "()I"⟩ ∈ TB := tb_mem (List.mem_append_right _ (List.mem_append_right _ (List.mem_append_left _ (List.mem_of_getElem? (i := 153) rfl)))) rfl
theorem tw_431 : Cond.instanceMethod ⟨"FewerLamps", "bell", "()I"⟩ ∈ TB := tb_mem (List.mem_append_right _ (List.mem_append_right _ (List.mem_append_left _ (List.mem_of_getElem? (i := 154) rfl)))) rfl
theorem tw_432 : Cond.selects "FewerLamps" ⟨"FewerLamps", "bell", "()I"⟩ ⟨"FewerLamps", "bell", "()I"⟩ ∈ TB := tb_mem (List.mem_append_right _ (List.mem_append_right _ (List.mem_append_left _ (List.mem_of_getElem? (i := 155) rfl)))) rfl
theorem tw_433 : Cond.code ⟨"FewerLamps", "bell", "()I"⟩ prog_1_method_7_code 1 (Option.some FieldType.int) ∈ TB := tb_mem (List.mem_append_right _ (List.mem_append_right _ (List.mem_append_left _ (List.mem_of_getElem? (i := 156) rfl)))) rfl
theorem tw_434 : Cond.methodLink "FewerLamps" 154 ⟨"FewerLamps$Present", "remember", "()V"⟩ ∈ TB := tb_mem (List.mem_append_right _ (List.mem_append_right _ (List.mem_append_left _ (List.mem_of_getElem? (i := 157) rfl)))) rfl
theorem tw_435 : Cond.instanceMethod ⟨"FewerLamps$Present", "remember", "()V"⟩ ∈ TB := tb_mem (List.mem_append_right _ (List.mem_append_right _ (List.mem_append_left _ (List.mem_of_getElem? (i := 158) rfl)))) rfl
theorem tw_436 : Cond.selects "FewerLamps$Present" ⟨"FewerLamps$Present", "remember", "()V"⟩ ⟨"FewerLamps$Present", "remember", "()V"⟩ ∈ TB := tb_mem (List.mem_append_right _ (List.mem_append_right _ (List.mem_append_left _ (List.mem_of_getElem? (i := 159) rfl)))) rfl
theorem tw_437 : Cond.code ⟨"FewerLamps$Present", "remember", "()V"⟩ prog_5_method_3_code 2 (Option.none : Option FieldType) ∈ TB := tb_mem (List.mem_append_right _ (List.mem_append_right _ (List.mem_append_left _ (List.mem_of_getElem? (i := 160) rfl)))) rfl
theorem tw_438 : Cond.methodLink "FewerLamps$Present" 31 ⟨"java/lang/System", "arraycopy", "(Ljava/lang/Object;ILjava/lang/Object;II)V"⟩ ∈ TB := tb_mem (List.mem_append_right _ (List.mem_append_right _ (List.mem_append_left _ (List.mem_of_getElem? (i := 161) rfl)))) rfl
theorem tw_439 : Cond.methodLink "FewerLamps" 157 ⟨"FewerLamps$Bellwork", "struck", "(I)I"⟩ ∈ TB := tb_mem (List.mem_append_right _ (List.mem_append_right _ (List.mem_append_left _ (List.mem_of_getElem? (i := 162) rfl)))) rfl
theorem tw_440 : Cond.instanceMethod ⟨"FewerLamps$Bellwork", "struck", "(I)I"⟩ ∈ TB := tb_mem (List.mem_append_right _ (List.mem_append_right _ (List.mem_append_left _ (List.mem_of_getElem? (i := 163) rfl)))) rfl
theorem tw_441 : Cond.selects "FewerLamps$Bellwork" ⟨"FewerLamps$Bellwork", "struck", "(I)I"⟩ ⟨"FewerLamps$Bellwork", "struck", "(I)I"⟩ ∈ TB := tb_mem (List.mem_append_right _ (List.mem_append_right _ (List.mem_append_left _ (List.mem_of_getElem? (i := 164) rfl)))) rfl
theorem tw_442 : Cond.code ⟨"FewerLamps$Bellwork", "struck", "(I)I"⟩ prog_2_method_5_code 2 (Option.some FieldType.int) ∈ TB := tb_mem (List.mem_append_right _ (List.mem_append_right _ (List.mem_append_left _ (List.mem_of_getElem? (i := 165) rfl)))) rfl
theorem tw_443 : Cond.methodLink "FewerLamps$Bellwork" 63 ⟨"FewerLamps$Bellwork", "strike", "(I)I"⟩ ∈ TB := tb_mem (List.mem_append_right _ (List.mem_append_right _ (List.mem_append_left _ (List.mem_of_getElem? (i := 166) rfl)))) rfl
theorem tw_445 : Cond.instanceMethod ⟨"FewerLamps$Bellwork", "strike", "(I)I"⟩ ∈ TB := tb_mem (List.mem_append_right _ (List.mem_append_right _ (List.mem_append_left _ (List.mem_of_getElem? (i := 168) rfl)))) rfl
theorem tw_446 : Cond.code ⟨"FewerLamps$Bellwork", "strike", "(I)I"⟩ prog_2_method_6_code 4 (Option.some FieldType.int) ∈ TB := tb_mem (List.mem_append_right _ (List.mem_append_right _ (List.mem_append_left _ (List.mem_of_getElem? (i := 169) rfl)))) rfl
theorem tw_447 : Cond.methodLink "FewerLamps$Bellwork" 70 ⟨"FewerLamps$Bellwork", "isOnBehind", "(II)Z"⟩ ∈ TB := tb_mem (List.mem_append_right _ (List.mem_append_right _ (List.mem_append_left _ (List.mem_of_getElem? (i := 170) rfl)))) rfl
theorem tw_449 : Cond.instanceMethod ⟨"FewerLamps$Bellwork", "isOnBehind", "(II)Z"⟩ ∈ TB := tb_mem (List.mem_append_right _ (List.mem_append_right _ (List.mem_append_left _ (List.mem_of_getElem? (i := 172) rfl)))) rfl
theorem tw_450 : Cond.code ⟨"FewerLamps$Bellwork", "isOnBehind", "(II)Z"⟩ prog_2_method_7_code 7 (Option.some FieldType.boolean) ∈ TB := tb_mem (List.mem_append_right _ (List.mem_append_right _ (List.mem_append_left _ (List.mem_of_getElem? (i := 173) rfl)))) rfl
theorem tw_451 : Cond.methodLink "FewerLamps$Bellwork" 77 ⟨"java/lang/Integer", "bitCount", "(I)I"⟩ ∈ TB := tb_mem (List.mem_append_right _ (List.mem_append_right _ (List.mem_append_left _ (List.mem_of_getElem? (i := 174) rfl)))) rfl
theorem tw_452 : Cond.methodLink "FewerLampsLaw" 40 ⟨"FewerLamps", "turn", "(I)I"⟩ ∈ TB := tb_mem (List.mem_append_right _ (List.mem_append_right _ (List.mem_append_left _ (List.mem_of_getElem? (i := 175) rfl)))) rfl
theorem tw_453 : Cond.instanceMethod ⟨"FewerLamps", "turn", "(I)I"⟩ ∈ TB := tb_mem (List.mem_append_right _ (List.mem_append_right _ (List.mem_append_left _ (List.mem_of_getElem? (i := 176) rfl)))) rfl
theorem tw_454 : Cond.selects "FewerLamps" ⟨"FewerLamps", "turn", "(I)I"⟩ ⟨"FewerLamps", "turn", "(I)I"⟩ ∈ TB := tb_mem (List.mem_append_right _ (List.mem_append_right _ (List.mem_append_left _ (List.mem_of_getElem? (i := 177) rfl)))) rfl
theorem tw_455 : Cond.code ⟨"FewerLamps", "turn", "(I)I"⟩ prog_1_method_8_code 2 (Option.some FieldType.int) ∈ TB := tb_mem (List.mem_append_right _ (List.mem_append_right _ (List.mem_append_left _ (List.mem_of_getElem? (i := 178) rfl)))) rfl
theorem tw_456 : Cond.methodLink "FewerLampsLaw" 44 ⟨"FewerLamps", "fog", "(II)I"⟩ ∈ TB := tb_mem (List.mem_append_right _ (List.mem_append_right _ (List.mem_append_left _ (List.mem_of_getElem? (i := 179) rfl)))) rfl
theorem tw_457 : Cond.instanceMethod ⟨"FewerLamps", "fog", "(II)I"⟩ ∈ TB := tb_mem (List.mem_append_right _ (List.mem_append_right _ (List.mem_append_left _ (List.mem_of_getElem? (i := 180) rfl)))) rfl
theorem tw_458 : Cond.selects "FewerLamps" ⟨"FewerLamps", "fog", "(II)I"⟩ ⟨"FewerLamps", "fog", "(II)I"⟩ ∈ TB := tb_mem (List.mem_append_right _ (List.mem_append_right _ (List.mem_append_left _ (List.mem_of_getElem? (i := 181) rfl)))) rfl
theorem tw_459 : Cond.code ⟨"FewerLamps", "fog", "(II)I"⟩ prog_1_method_9_code 3 (Option.some FieldType.int) ∈ TB := tb_mem (List.mem_append_right _ (List.mem_append_right _ (List.mem_append_left _ (List.mem_of_getElem? (i := 182) rfl)))) rfl
theorem tw_460 : Cond.methodLink "FewerLampsLaw" 48 ⟨"FewerLamps", "undo", "()I"⟩ ∈ TB := tb_mem (List.mem_append_right _ (List.mem_append_right _ (List.mem_append_left _ (List.mem_of_getElem? (i := 183) rfl)))) rfl
theorem tw_461 : Cond.instanceMethod ⟨"FewerLamps", "undo", "()I"⟩ ∈ TB := tb_mem (List.mem_append_right _ (List.mem_append_right _ (List.mem_append_left _ (List.mem_of_getElem? (i := 184) rfl)))) rfl
theorem tw_462 : Cond.selects "FewerLamps" ⟨"FewerLamps", "undo", "()I"⟩ ⟨"FewerLamps", "undo", "()I"⟩ ∈ TB := tb_mem (List.mem_append_right _ (List.mem_append_right _ (List.mem_append_left _ (List.mem_of_getElem? (i := 185) rfl)))) rfl
theorem tw_463 : Cond.code ⟨"FewerLamps", "undo", "()I"⟩ prog_1_method_10_code 1 (Option.some FieldType.int) ∈ TB := tb_mem (List.mem_append_right _ (List.mem_append_right _ (List.mem_append_left _ (List.mem_of_getElem? (i := 186) rfl)))) rfl
theorem tw_464 : Cond.methodLink "FewerLamps" 166 ⟨"FewerLamps$Present", "recall", "()V"⟩ ∈ TB := tb_mem (List.mem_append_right _ (List.mem_append_right _ (List.mem_append_left _ (List.mem_of_getElem? (i := 187) rfl)))) rfl
theorem tw_465 : Cond.instanceMethod ⟨"FewerLamps$Present", "recall", "()V"⟩ ∈ TB := tb_mem (List.mem_append_right _ (List.mem_append_right _ (List.mem_append_left _ (List.mem_of_getElem? (i := 188) rfl)))) rfl
theorem tw_466 : Cond.selects "FewerLamps$Present" ⟨"FewerLamps$Present", "recall", "()V"⟩ ⟨"FewerLamps$Present", "recall", "()V"⟩ ∈ TB := tb_mem (List.mem_append_right _ (List.mem_append_right _ (List.mem_append_left _ (List.mem_of_getElem? (i := 189) rfl)))) rfl
theorem tw_467 : Cond.code ⟨"FewerLamps$Present", "recall", "()V"⟩ prog_5_method_4_code 2 (Option.none : Option FieldType) ∈ TB := tb_mem (List.mem_append_right _ (List.mem_append_right _ (List.mem_append_left _ (List.mem_of_getElem? (i := 190) rfl)))) rfl
theorem tw_468 : Cond.methodLink "FewerLampsLaw" 52 ⟨"FewerLamps", "now", "(I)I"⟩ ∈ TB := tb_mem (List.mem_append_right _ (List.mem_append_right _ (List.mem_append_left _ (List.mem_of_getElem? (i := 191) rfl)))) rfl
theorem tw_469 : Cond.instanceMethod ⟨"FewerLamps", "now", "(I)I"⟩ ∈ TB := tb_mem (List.mem_append_right _ (List.mem_append_right _ (List.mem_append_left _ (List.mem_of_getElem? (i := 192) rfl)))) rfl
theorem tw_470 : Cond.selects "FewerLamps" ⟨"FewerLamps", "now", "(I)I"⟩ ⟨"FewerLamps", "now", "(I)I"⟩ ∈ TB := tb_mem (List.mem_append_right _ (List.mem_append_right _ (List.mem_append_left _ (List.mem_of_getElem? (i := 193) rfl)))) rfl
theorem tw_471 : Cond.code ⟨"FewerLamps", "now", "(I)I"⟩ prog_1_method_11_code 2 (Option.some FieldType.int) ∈ TB := tb_mem (List.mem_append_right _ (List.mem_append_right _ (List.mem_append_left _ (List.mem_of_getElem? (i := 194) rfl)))) rfl
theorem tw_472 : Cond.methodLink "FewerLampsLaw" 56 ⟨"FewerLamps", "after", "(I)I"⟩ ∈ TB := tb_mem (List.mem_append_right _ (List.mem_append_right _ (List.mem_append_left _ (List.mem_of_getElem? (i := 195) rfl)))) rfl
theorem tw_473 : Cond.instanceMethod ⟨"FewerLamps", "after", "(I)I"⟩ ∈ TB := tb_mem (List.mem_append_right _ (List.mem_append_right _ (List.mem_append_left _ (List.mem_of_getElem? (i := 196) rfl)))) rfl
theorem tw_474 : Cond.selects "FewerLamps" ⟨"FewerLamps", "after", "(I)I"⟩ ⟨"FewerLamps", "after", "(I)I"⟩ ∈ TB := tb_mem (List.mem_append_right _ (List.mem_append_right _ (List.mem_append_left _ (List.mem_of_getElem? (i := 197) rfl)))) rfl
theorem tw_475 : Cond.code ⟨"FewerLamps", "after", "(I)I"⟩ prog_1_method_12_code 2 (Option.some FieldType.int) ∈ TB := tb_mem (List.mem_append_right _ (List.mem_append_right _ (List.mem_append_left _ (List.mem_of_getElem? (i := 198) rfl)))) rfl
theorem tw_476 : Cond.methodLink "FewerLamps" 169 ⟨"FewerLamps$Bellwork", "struckOften", "(II)I"⟩ ∈ TB := tb_mem (List.mem_append_right _ (List.mem_append_right _ (List.mem_append_left _ (List.mem_of_getElem? (i := 199) rfl)))) rfl
theorem tw_477 : Cond.instanceMethod ⟨"FewerLamps$Bellwork", "struckOften", "(II)I"⟩ ∈ TB := tb_mem (List.mem_append_right _ (List.mem_append_right _ (List.mem_append_left _ (List.mem_of_getElem? (i := 200) rfl)))) rfl
theorem tw_478 : Cond.selects "FewerLamps$Bellwork" ⟨"FewerLamps$Bellwork", "struckOften", "(II)I"⟩ ⟨"FewerLamps$Bellwork", "struckOften", "(II)I"⟩ ∈ TB := tb_mem (List.mem_append_right _ (List.mem_append_right _ (List.mem_append_left _ (List.mem_of_getElem? (i := 201) rfl)))) rfl
theorem tw_479 : Cond.code ⟨"FewerLamps$Bellwork", "struckOften", "(II)I"⟩ prog_2_method_8_code 5 (Option.some FieldType.int) ∈ TB := tb_mem (List.mem_append_right _ (List.mem_append_right _ (List.mem_append_left _ (List.mem_of_getElem? (i := 202) rfl)))) rfl
theorem tw_480 : Cond.methodLink "FewerLamps$Bellwork" 82 ⟨"FewerLamps$Bellwork", "struck", "(I)I"⟩ ∈ TB := tb_mem (List.mem_append_right _ (List.mem_append_right _ (List.mem_append_left _ (List.mem_of_getElem? (i := 203) rfl)))) rfl
theorem tw_481 : Cond.methodLink "FewerLampsLaw" 60 ⟨"FewerLamps", "round", "(I)I"⟩ ∈ TB := tb_mem (List.mem_append_right _ (List.mem_append_right _ (List.mem_append_left _ (List.mem_of_getElem? (i := 204) rfl)))) rfl
theorem tw_482 : Cond.instanceMethod ⟨"FewerLamps", "round", "(I)I"⟩ ∈ TB := tb_mem (List.mem_append_right _ (List.mem_append_right _ (List.mem_append_left _ (List.mem_of_getElem? (i := 205) rfl)))) rfl
theorem tw_483 : Cond.selects "FewerLamps" ⟨"FewerLamps", "round", "(I)I"⟩ ⟨"FewerLamps", "round", "(I)I"⟩ ∈ TB := tb_mem (List.mem_append_right _ (List.mem_append_right _ (List.mem_append_left _ (List.mem_of_getElem? (i := 206) rfl)))) rfl
theorem tw_484 : Cond.code ⟨"FewerLamps", "round", "(I)I"⟩ prog_1_method_13_code 2 (Option.some FieldType.int) ∈ TB := tb_mem (List.mem_append_right _ (List.mem_append_right _ (List.mem_append_left _ (List.mem_of_getElem? (i := 207) rfl)))) rfl
theorem tw_485 : Cond.methodLink "FewerLamps" 173 ⟨"FewerLamps$Bellwork", "findRound", "(I)V"⟩ ∈ TB := tb_mem (List.mem_append_right _ (List.mem_append_right _ (List.mem_append_left _ (List.mem_of_getElem? (i := 208) rfl)))) rfl
theorem tw_486 : Cond.instanceMethod ⟨"FewerLamps$Bellwork", "findRound", "(I)V"⟩ ∈ TB := tb_mem (List.mem_append_right _ (List.mem_append_right _ (List.mem_append_left _ (List.mem_of_getElem? (i := 209) rfl)))) rfl
theorem tw_487 : Cond.selects "FewerLamps$Bellwork" ⟨"FewerLamps$Bellwork", "findRound", "(I)V"⟩ ⟨"FewerLamps$Bellwork", "findRound", "(I)V"⟩ ∈ TB := tb_mem (List.mem_append_right _ (List.mem_append_right _ (List.mem_append_left _ (List.mem_of_getElem? (i := 210) rfl)))) rfl
theorem tw_488 : Cond.code ⟨"FewerLamps$Bellwork", "findRound", "(I)V"⟩ prog_2_method_9_code 4 (Option.none : Option FieldType) ∈ TB := tb_mem (List.mem_append_right _ (List.mem_append_right _ (List.mem_append_left _ (List.mem_of_getElem? (i := 211) rfl)))) rfl
theorem tw_489 : Cond.methodLink "FewerLampsLaw" 64 ⟨"FewerLamps", "again", "()I"⟩ ∈ TB := tb_mem (List.mem_append_right _ (List.mem_append_right _ (List.mem_append_left _ (List.mem_of_getElem? (i := 212) rfl)))) rfl
theorem tw_490 : Cond.instanceMethod ⟨"FewerLamps", "again", "()I"⟩ ∈ TB := tb_mem (List.mem_append_right _ (List.mem_append_right _ (List.mem_append_left _ (List.mem_of_getElem? (i := 213) rfl)))) rfl
theorem tw_491 : Cond.selects "FewerLamps" ⟨"FewerLamps", "again", "()I"⟩ ⟨"FewerLamps", "again", "()I"⟩ ∈ TB := tb_mem (List.mem_append_right _ (List.mem_append_right _ (List.mem_append_left _ (List.mem_of_getElem? (i := 214) rfl)))) rfl
theorem tw_492 : Cond.code ⟨"FewerLamps", "again", "()I"⟩ prog_1_method_14_code 1 (Option.some FieldType.int) ∈ TB := tb_mem (List.mem_append_right _ (List.mem_append_right _ (List.mem_append_left _ (List.mem_of_getElem? (i := 215) rfl)))) rfl
theorem tw_493 : Cond.methodLink "FewerLampsLaw" 68 ⟨"FewerLamps", "ahead", "(II)I"⟩ ∈ TB := tb_mem (List.mem_append_right _ (List.mem_append_right _ (List.mem_append_left _ (List.mem_of_getElem? (i := 216) rfl)))) rfl
theorem tw_494 : Cond.instanceMethod ⟨"FewerLamps", "ahead", "(II)I"⟩ ∈ TB := tb_mem (List.mem_append_right _ (List.mem_append_right _ (List.mem_append_left _ (List.mem_of_getElem? (i := 217) rfl)))) rfl
theorem tw_495 : Cond.selects "FewerLamps" ⟨"FewerLamps", "ahead", "(II)I"⟩ ⟨"FewerLamps", "ahead", "(II)I"⟩ ∈ TB := tb_mem (List.mem_append_right _ (List.mem_append_right _ (List.mem_append_left _ (List.mem_of_getElem? (i := 218) rfl)))) rfl
theorem tw_496 : Cond.code ⟨"FewerLamps", "ahead", "(II)I"⟩ prog_1_method_15_code 6 (Option.some FieldType.int) ∈ TB := tb_mem (List.mem_append_right _ (List.mem_append_right _ (List.mem_append_left _ (List.mem_of_getElem? (i := 219) rfl)))) rfl
theorem tw_497 : Cond.methodLink "FewerLamps" 180 ⟨"FewerLamps$Town", "isStand", "(I)Z"⟩ ∈ TB := tb_mem (List.mem_append_right _ (List.mem_append_right _ (List.mem_append_left _ (List.mem_of_getElem? (i := 220) rfl)))) rfl
theorem tw_498 : Cond.instanceMethod ⟨"FewerLamps$Town", "isStand", "(I)Z"⟩ ∈ TB := tb_mem (List.mem_append_right _ (List.mem_append_right _ (List.mem_append_left _ (List.mem_of_getElem? (i := 221) rfl)))) rfl
theorem tw_499 : Cond.selects "FewerLamps$Town" ⟨"FewerLamps$Town", "isStand", "(I)Z"⟩ ⟨"FewerLamps$Town", "isStand", "(I)Z"⟩ ∈ TB := tb_mem (List.mem_append_right _ (List.mem_append_right _ (List.mem_append_left _ (List.mem_of_getElem? (i := 222) rfl)))) rfl
theorem tw_500 : Cond.code ⟨"FewerLamps$Town", "isStand", "(I)Z"⟩ prog_8_method_4_code 2 (Option.some FieldType.boolean) ∈ TB := tb_mem (List.mem_append_right _ (List.mem_append_right _ (List.mem_append_left _ (List.mem_of_getElem? (i := 223) rfl)))) rfl
theorem tw_501 : Cond.methodLink "FewerLamps$Town" 31 ⟨"FewerLamps$Town", "stands", "()I"⟩ ∈ TB := tb_mem (List.mem_append_right _ (List.mem_append_right _ (List.mem_append_left _ (List.mem_of_getElem? (i := 224) rfl)))) rfl
theorem tw_502 : Cond.instanceMethod ⟨"FewerLamps$Town", "stands", "()I"⟩ ∈ TB := tb_mem (List.mem_append_right _ (List.mem_append_right _ (List.mem_append_left _ (List.mem_of_getElem? (i := 225) rfl)))) rfl
theorem tw_503 : Cond.selects "FewerLamps$Town" ⟨"FewerLamps$Town", "stands", "()I"⟩ ⟨"FewerLamps$Town", "stands", "()I"⟩ ∈ TB := tb_mem (List.mem_append_right _ (List.mem_append_right _ (List.mem_append_left _ (List.mem_of_getElem? (i := 226) rfl)))) rfl
theorem tw_504 : Cond.code ⟨"FewerLamps$Town", "stands", "()I"⟩ prog_8_method_5_code 1 (Option.some FieldType.int) ∈ TB := tb_mem (List.mem_append_right _ (List.mem_append_right _ (List.mem_append_left _ (List.mem_of_getElem? (i := 227) rfl)))) rfl
theorem tw_505 : Cond.methodLink "FewerLamps" 183 ⟨"FewerLamps$Town", "stands", "()I"⟩ ∈ TB := tb_mem (List.mem_append_right _ (List.mem_append_right _ (List.mem_append_left _ (List.mem_of_getElem? (i := 228) rfl)))) rfl
theorem tw_506 : Cond.methodLink "FewerLampsLaw" 72 ⟨"FewerLamps", "eden", "()I"⟩ ∈ TB := tb_mem (List.mem_append_right _ (List.mem_append_right _ (List.mem_append_left _ (List.mem_of_getElem? (i := 229) rfl)))) rfl
theorem tw_507 : Cond.instanceMethod ⟨"FewerLamps", "eden", "()I"⟩ ∈ TB := tb_mem (List.mem_append_right _ (List.mem_append_right _ (List.mem_append_left _ (List.mem_of_getElem? (i := 230) rfl)))) rfl
theorem tw_508 : Cond.selects "FewerLamps" ⟨"FewerLamps", "eden", "()I"⟩ ⟨"FewerLamps", "eden", "()I"⟩ ∈ TB := tb_mem (List.mem_append_right _ (List.mem_append_right _ (List.mem_append_left _ (List.mem_of_getElem? (i := 231) rfl)))) rfl
theorem tw_509 : Cond.code ⟨"FewerLamps", "eden", "()I"⟩ prog_1_method_16_code 1 (Option.some FieldType.int) ∈ TB := tb_mem (List.mem_append_right _ (List.mem_append_right _ (List.mem_append_left _ (List.mem_of_getElem? (i := 232) rfl)))) rfl
theorem tw_510 : Cond.methodLink "FewerLamps" 187 ⟨"FewerLamps$Bellwork", "countUnmade", "()I"⟩ ∈ TB := tb_mem (List.mem_append_right _ (List.mem_append_right _ (List.mem_append_left _ (List.mem_of_getElem? (i := 233) rfl)))) rfl
theorem tw_511 : Cond.instanceMethod ⟨"FewerLamps$Bellwork", "countUnmade", "()I"⟩ ∈ TB := tb_mem (List.mem_append_right _ (List.mem_append_right _ (List.mem_append_left _ (List.mem_of_getElem? (i := 234) rfl)))) rfl
theorem tw_512 : Cond.selects "FewerLamps$Bellwork" ⟨"FewerLamps$Bellwork", "countUnmade", "()I"⟩ ⟨"FewerLamps$Bellwork", "countUnmade", "()I"⟩ ∈ TB := tb_mem (List.mem_append_right _ (List.mem_append_right _ (List.mem_append_left _ (List.mem_of_getElem? (i := 235) rfl)))) rfl
theorem tw_513 : Cond.code ⟨"FewerLamps$Bellwork", "countUnmade", "()I"⟩ prog_2_method_10_code 4 (Option.some FieldType.int) ∈ TB := tb_mem (List.mem_append_right _ (List.mem_append_right _ (List.mem_append_left _ (List.mem_of_getElem? (i := 236) rfl)))) rfl
theorem tw_514 : Cond.methodLink "FewerLamps$Bellwork" 91 ⟨"FewerLamps$Town", "stands", "()I"⟩ ∈ TB := tb_mem (List.mem_append_right _ (List.mem_append_right _ (List.mem_append_left _ (List.mem_of_getElem? (i := 237) rfl)))) rfl
theorem tw_515 : Cond.methodLink "FewerLampsLaw" 76 ⟨"FewerLamps", "lit", "(III)I"⟩ ∈ TB := tb_mem (List.mem_append_right _ (List.mem_append_right _ (List.mem_append_left _ (List.mem_of_getElem? (i := 238) rfl)))) rfl
theorem tw_516 : Cond.instanceMethod ⟨"FewerLamps", "lit", "(III)I"⟩ ∈ TB := tb_mem (List.mem_append_right _ (List.mem_append_right _ (List.mem_append_left _ (List.mem_of_getElem? (i := 239) rfl)))) rfl
theorem tw_517 : Cond.selects "FewerLamps" ⟨"FewerLamps", "lit", "(III)I"⟩ ⟨"FewerLamps", "lit", "(III)I"⟩ ∈ TB := tb_mem (List.mem_append_right _ (List.mem_append_right _ (List.mem_append_right _ (List.mem_append_left _ (List.mem_of_getElem? (i := 0) rfl))))) rfl
theorem tw_518 : Cond.code ⟨"FewerLamps", "lit", "(III)I"⟩ prog_1_method_17_code 4 (Option.some FieldType.int) ∈ TB := tb_mem (List.mem_append_right _ (List.mem_append_right _ (List.mem_append_right _ (List.mem_append_left _ (List.mem_of_getElem? (i := 1) rfl))))) rfl
theorem tw_519 : Cond.methodLink "FewerLamps" 190 ⟨"FewerLamps", "isSeen", "(I)Z"⟩ ∈ TB := tb_mem (List.mem_append_right _ (List.mem_append_right _ (List.mem_append_right _ (List.mem_append_left _ (List.mem_of_getElem? (i := 2) rfl))))) rfl
theorem tw_520 : Cond.static ⟨"FewerLamps", "isSeen", "(I)Z"⟩ ∈ TB := tb_mem (List.mem_append_right _ (List.mem_append_right _ (List.mem_append_right _ (List.mem_append_left _ (List.mem_of_getElem? (i := 3) rfl))))) rfl
theorem tw_521 : Cond.code ⟨"FewerLamps", "isSeen", "(I)Z"⟩ prog_1_method_28_code 1 (Option.some FieldType.boolean) ∈ TB := tb_mem (List.mem_append_right _ (List.mem_append_right _ (List.mem_append_right _ (List.mem_append_left _ (List.mem_of_getElem? (i := 4) rfl))))) rfl
theorem tw_522 : Cond.methodLink "FewerLamps" 193 ⟨"FewerLamps$Hands", "findLit", "(III)V"⟩ ∈ TB := tb_mem (List.mem_append_right _ (List.mem_append_right _ (List.mem_append_right _ (List.mem_append_left _ (List.mem_of_getElem? (i := 5) rfl))))) rfl
theorem tw_523 : Cond.instanceMethod ⟨"FewerLamps$Hands", "findLit", "(III)V"⟩ ∈ TB := tb_mem (List.mem_append_right _ (List.mem_append_right _ (List.mem_append_right _ (List.mem_append_left _ (List.mem_of_getElem? (i := 6) rfl))))) rfl
theorem tw_524 : Cond.selects "FewerLamps$Hands" ⟨"FewerLamps$Hands", "findLit", "(III)V"⟩ ⟨"FewerLamps$Hands", "findLit", "(III)V"⟩ ∈ TB := tb_mem (List.mem_append_right _ (List.mem_append_right _ (List.mem_append_right _ (List.mem_append_left _ (List.mem_of_getElem? (i := 7) rfl))))) rfl
theorem tw_525 : Cond.code ⟨"FewerLamps$Hands", "findLit", "(III)V"⟩ prog_3_method_3_code 6 (Option.none : Option FieldType) ∈ TB := tb_mem (List.mem_append_right _ (List.mem_append_right _ (List.mem_append_right _ (List.mem_append_left _ (List.mem_of_getElem? (i := 8) rfl))))) rfl
theorem tw_526 : Cond.methodLink "FewerLamps$Hands" 33 ⟨"FewerLamps$Hands", "findNone", "()V"⟩ ∈ TB := tb_mem (List.mem_append_right _ (List.mem_append_right _ (List.mem_append_right _ (List.mem_append_left _ (List.mem_of_getElem? (i := 9) rfl))))) rfl
theorem tw_528 : Cond.instanceMethod ⟨"FewerLamps$Hands", "findNone", "()V"⟩ ∈ TB := tb_mem (List.mem_append_right _ (List.mem_append_right _ (List.mem_append_right _ (List.mem_append_left _ (List.mem_of_getElem? (i := 11) rfl))))) rfl
theorem tw_529 : Cond.code ⟨"FewerLamps$Hands", "findNone", "()V"⟩ prog_3_method_2_code 1 (Option.none : Option FieldType) ∈ TB := tb_mem (List.mem_append_right _ (List.mem_append_right _ (List.mem_append_right _ (List.mem_append_left _ (List.mem_of_getElem? (i := 12) rfl))))) rfl
theorem tw_530 : Cond.methodLink "FewerLamps$Hands" 36 ⟨"FewerLamps$Town", "stands", "()I"⟩ ∈ TB := tb_mem (List.mem_append_right _ (List.mem_append_right _ (List.mem_append_right _ (List.mem_append_left _ (List.mem_of_getElem? (i := 13) rfl))))) rfl
theorem tw_531 : Cond.methodLink "FewerLamps$Hands" 42 ⟨"java/lang/Integer", "bitCount", "(I)I"⟩ ∈ TB := tb_mem (List.mem_append_right _ (List.mem_append_right _ (List.mem_append_right _ (List.mem_append_left _ (List.mem_of_getElem? (i := 14) rfl))))) rfl
theorem tw_532 : Cond.methodLink "FewerLamps$Hands" 48 ⟨"FewerLamps$Bellwork", "struckOften", "(II)I"⟩ ∈ TB := tb_mem (List.mem_append_right _ (List.mem_append_right _ (List.mem_append_right _ (List.mem_append_left _ (List.mem_of_getElem? (i := 15) rfl))))) rfl
theorem tw_533 : Cond.methodLink "FewerLamps$Hands" 54 ⟨"FewerLamps$Bellwork", "isLitForEver", "(II)Z"⟩ ∈ TB := tb_mem (List.mem_append_right _ (List.mem_append_right _ (List.mem_append_right _ (List.mem_append_left _ (List.mem_of_getElem? (i := 16) rfl))))) rfl
theorem tw_534 : Cond.instanceMethod ⟨"FewerLamps$Bellwork", "isLitForEver", "(II)Z"⟩ ∈ TB := tb_mem (List.mem_append_right _ (List.mem_append_right _ (List.mem_append_right _ (List.mem_append_left _ (List.mem_of_getElem? (i := 17) rfl))))) rfl
theorem tw_535 : Cond.selects "FewerLamps$Bellwork" ⟨"FewerLamps$Bellwork", "isLitForEver", "(II)Z"⟩ ⟨"FewerLamps$Bellwork", "isLitForEver", "(II)Z"⟩ ∈ TB := tb_mem (List.mem_append_right _ (List.mem_append_right _ (List.mem_append_right _ (List.mem_append_left _ (List.mem_of_getElem? (i := 18) rfl))))) rfl
theorem tw_536 : Cond.code ⟨"FewerLamps$Bellwork", "isLitForEver", "(II)Z"⟩ prog_2_method_11_code 7 (Option.some FieldType.boolean) ∈ TB := tb_mem (List.mem_append_right _ (List.mem_append_right _ (List.mem_append_right _ (List.mem_append_left _ (List.mem_of_getElem? (i := 19) rfl))))) rfl
theorem tw_537 : Cond.methodLink "FewerLampsLaw" 81 ⟨"FewerLamps", "who", "(III)I"⟩ ∈ TB := tb_mem (List.mem_append_right _ (List.mem_append_right _ (List.mem_append_right _ (List.mem_append_left _ (List.mem_of_getElem? (i := 20) rfl))))) rfl
theorem tw_538 : Cond.instanceMethod ⟨"FewerLamps", "who", "(III)I"⟩ ∈ TB := tb_mem (List.mem_append_right _ (List.mem_append_right _ (List.mem_append_right _ (List.mem_append_left _ (List.mem_of_getElem? (i := 21) rfl))))) rfl
theorem tw_539 : Cond.selects "FewerLamps" ⟨"FewerLamps", "who", "(III)I"⟩ ⟨"FewerLamps", "who", "(III)I"⟩ ∈ TB := tb_mem (List.mem_append_right _ (List.mem_append_right _ (List.mem_append_right _ (List.mem_append_left _ (List.mem_of_getElem? (i := 22) rfl))))) rfl
theorem tw_540 : Cond.code ⟨"FewerLamps", "who", "(III)I"⟩ prog_1_method_18_code 4 (Option.some FieldType.int) ∈ TB := tb_mem (List.mem_append_right _ (List.mem_append_right _ (List.mem_append_right _ (List.mem_append_left _ (List.mem_of_getElem? (i := 23) rfl))))) rfl
theorem tw_541 : Cond.methodLink "FewerLamps" 206 ⟨"FewerLamps$Hands", "findWho", "(III)V"⟩ ∈ TB := tb_mem (List.mem_append_right _ (List.mem_append_right _ (List.mem_append_right _ (List.mem_append_left _ (List.mem_of_getElem? (i := 24) rfl))))) rfl
theorem tw_542 : Cond.instanceMethod ⟨"FewerLamps$Hands", "findWho", "(III)V"⟩ ∈ TB := tb_mem (List.mem_append_right _ (List.mem_append_right _ (List.mem_append_right _ (List.mem_append_left _ (List.mem_of_getElem? (i := 25) rfl))))) rfl
theorem tw_543 : Cond.selects "FewerLamps$Hands" ⟨"FewerLamps$Hands", "findWho", "(III)V"⟩ ⟨"FewerLamps$Hands", "findWho", "(III)V"⟩ ∈ TB := tb_mem (List.mem_append_right _ (List.mem_append_right _ (List.mem_append_right _ (List.mem_append_left _ (List.mem_of_getElem? (i := 26) rfl))))) rfl
theorem tw_544 : Cond.code ⟨"FewerLamps$Hands", "findWho", "(III)V"⟩ prog_3_method_4_code 5 (Option.none : Option FieldType) ∈ TB := tb_mem (List.mem_append_right _ (List.mem_append_right _ (List.mem_append_right _ (List.mem_append_left _ (List.mem_of_getElem? (i := 27) rfl))))) rfl
theorem tw_545 : Cond.methodLink "FewerLampsLaw" 85 ⟨"FewerLamps", "thief", "(II)I"⟩ ∈ TB := tb_mem (List.mem_append_right _ (List.mem_append_right _ (List.mem_append_right _ (List.mem_append_left _ (List.mem_of_getElem? (i := 28) rfl))))) rfl
theorem tw_546 : Cond.instanceMethod ⟨"FewerLamps", "thief", "(II)I"⟩ ∈ TB := tb_mem (List.mem_append_right _ (List.mem_append_right _ (List.mem_append_right _ (List.mem_append_left _ (List.mem_of_getElem? (i := 29) rfl))))) rfl
theorem tw_547 : Cond.selects "FewerLamps" ⟨"FewerLamps", "thief", "(II)I"⟩ ⟨"FewerLamps", "thief", "(II)I"⟩ ∈ TB := tb_mem (List.mem_append_right _ (List.mem_append_right _ (List.mem_append_right _ (List.mem_append_left _ (List.mem_of_getElem? (i := 30) rfl))))) rfl
theorem tw_548 : Cond.code ⟨"FewerLamps", "thief", "(II)I"⟩ prog_1_method_19_code 3 (Option.some FieldType.int) ∈ TB := tb_mem (List.mem_append_right _ (List.mem_append_right _ (List.mem_append_right _ (List.mem_append_left _ (List.mem_of_getElem? (i := 31) rfl))))) rfl
theorem tw_549 : Cond.methodLink "FewerLamps" 209 ⟨"FewerLamps$Hands", "soonest", "(III)I"⟩ ∈ TB := tb_mem (List.mem_append_right _ (List.mem_append_right _ (List.mem_append_right _ (List.mem_append_left _ (List.mem_of_getElem? (i := 32) rfl))))) rfl
theorem tw_550 : Cond.instanceMethod ⟨"FewerLamps$Hands", "soonest", "(III)I"⟩ ∈ TB := tb_mem (List.mem_append_right _ (List.mem_append_right _ (List.mem_append_right _ (List.mem_append_left _ (List.mem_of_getElem? (i := 33) rfl))))) rfl
theorem tw_551 : Cond.selects "FewerLamps$Hands" ⟨"FewerLamps$Hands", "soonest", "(III)I"⟩ ⟨"FewerLamps$Hands", "soonest", "(III)I"⟩ ∈ TB := tb_mem (List.mem_append_right _ (List.mem_append_right _ (List.mem_append_right _ (List.mem_append_left _ (List.mem_of_getElem? (i := 34) rfl))))) rfl
theorem tw_552 : Cond.code ⟨"FewerLamps$Hands", "soonest", "(III)I"⟩ prog_3_method_5_code 7 (Option.some FieldType.int) ∈ TB := tb_mem (List.mem_append_right _ (List.mem_append_right _ (List.mem_append_right _ (List.mem_append_left _ (List.mem_of_getElem? (i := 35) rfl))))) rfl
theorem tw_553 : Cond.methodLink "FewerLamps$Hands" 58 ⟨"FewerLamps$Bellwork", "struck", "(I)I"⟩ ∈ TB := tb_mem (List.mem_append_right _ (List.mem_append_right _ (List.mem_append_right _ (List.mem_append_left _ (List.mem_of_getElem? (i := 36) rfl))))) rfl
theorem tw_554 : Cond.methodLink "FewerLamps$Hands" 61 ⟨"FewerLamps$Hands", "withRoads", "(I)I"⟩ ∈ TB := tb_mem (List.mem_append_right _ (List.mem_append_right _ (List.mem_append_right _ (List.mem_append_left _ (List.mem_of_getElem? (i := 37) rfl))))) rfl
theorem tw_556 : Cond.instanceMethod ⟨"FewerLamps$Hands", "withRoads", "(I)I"⟩ ∈ TB := tb_mem (List.mem_append_right _ (List.mem_append_right _ (List.mem_append_right _ (List.mem_append_left _ (List.mem_of_getElem? (i := 39) rfl))))) rfl
theorem tw_557 : Cond.code ⟨"FewerLamps$Hands", "withRoads", "(I)I"⟩ prog_3_method_6_code 4 (Option.some FieldType.int) ∈ TB := tb_mem (List.mem_append_right _ (List.mem_append_right _ (List.mem_append_right _ (List.mem_append_left _ (List.mem_of_getElem? (i := 40) rfl))))) rfl
theorem tw_558 : Cond.methodLink "FewerLampsLaw" 89 ⟨"FewerLamps", "still", "(I)I"⟩ ∈ TB := tb_mem (List.mem_append_right _ (List.mem_append_right _ (List.mem_append_right _ (List.mem_append_left _ (List.mem_of_getElem? (i := 41) rfl))))) rfl
theorem tw_559 : Cond.instanceMethod ⟨"FewerLamps", "still", "(I)I"⟩ ∈ TB := tb_mem (List.mem_append_right _ (List.mem_append_right _ (List.mem_append_right _ (List.mem_append_left _ (List.mem_of_getElem? (i := 42) rfl))))) rfl
theorem tw_560 : Cond.selects "FewerLamps" ⟨"FewerLamps", "still", "(I)I"⟩ ⟨"FewerLamps", "still", "(I)I"⟩ ∈ TB := tb_mem (List.mem_append_right _ (List.mem_append_right _ (List.mem_append_right _ (List.mem_append_left _ (List.mem_of_getElem? (i := 43) rfl))))) rfl
theorem tw_561 : Cond.code ⟨"FewerLamps", "still", "(I)I"⟩ prog_1_method_20_code 4 (Option.some FieldType.int) ∈ TB := tb_mem (List.mem_append_right _ (List.mem_append_right _ (List.mem_append_right _ (List.mem_append_left _ (List.mem_of_getElem? (i := 44) rfl))))) rfl
theorem tw_562 : Cond.methodLink "FewerLamps" 213 ⟨"FewerLamps$Town", "isJoined", "(II)Z"⟩ ∈ TB := tb_mem (List.mem_append_right _ (List.mem_append_right _ (List.mem_append_right _ (List.mem_append_left _ (List.mem_of_getElem? (i := 45) rfl))))) rfl
theorem tw_563 : Cond.methodLink "FewerLamps" 217 ⟨"FewerLamps", "stillsBy", "(II)Z"⟩ ∈ TB := tb_mem (List.mem_append_right _ (List.mem_append_right _ (List.mem_append_right _ (List.mem_append_left _ (List.mem_of_getElem? (i := 46) rfl))))) rfl
theorem tw_565 : Cond.instanceMethod ⟨"FewerLamps", "stillsBy", "(II)Z"⟩ ∈ TB := tb_mem (List.mem_append_right _ (List.mem_append_right _ (List.mem_append_right _ (List.mem_append_left _ (List.mem_of_getElem? (i := 48) rfl))))) rfl
theorem tw_566 : Cond.code ⟨"FewerLamps", "stillsBy", "(II)Z"⟩ prog_1_method_30_code 3 (Option.some FieldType.boolean) ∈ TB := tb_mem (List.mem_append_right _ (List.mem_append_right _ (List.mem_append_right _ (List.mem_append_left _ (List.mem_of_getElem? (i := 49) rfl))))) rfl
theorem tw_567 : Cond.methodLink "FewerLamps" 247 ⟨"FewerLamps$Bellwork", "join", "(II)V"⟩ ∈ TB := tb_mem (List.mem_append_right _ (List.mem_append_right _ (List.mem_append_right _ (List.mem_append_left _ (List.mem_of_getElem? (i := 50) rfl))))) rfl
theorem tw_568 : Cond.instanceMethod ⟨"FewerLamps$Bellwork", "join", "(II)V"⟩ ∈ TB := tb_mem (List.mem_append_right _ (List.mem_append_right _ (List.mem_append_right _ (List.mem_append_left _ (List.mem_of_getElem? (i := 51) rfl))))) rfl
theorem tw_569 : Cond.selects "FewerLamps$Bellwork" ⟨"FewerLamps$Bellwork", "join", "(II)V"⟩ ⟨"FewerLamps$Bellwork", "join", "(II)V"⟩ ∈ TB := tb_mem (List.mem_append_right _ (List.mem_append_right _ (List.mem_append_right _ (List.mem_append_left _ (List.mem_of_getElem? (i := 52) rfl))))) rfl
theorem tw_570 : Cond.code ⟨"FewerLamps$Bellwork", "join", "(II)V"⟩ prog_2_method_4_code 3 (Option.none : Option FieldType) ∈ TB := tb_mem (List.mem_append_right _ (List.mem_append_right _ (List.mem_append_right _ (List.mem_append_left _ (List.mem_of_getElem? (i := 53) rfl))))) rfl
theorem tw_571 : Cond.methodLink "FewerLamps$Bellwork" 59 ⟨"FewerLamps$Town", "isLamp", "(I)Z"⟩ ∈ TB := tb_mem (List.mem_append_right _ (List.mem_append_right _ (List.mem_append_right _ (List.mem_append_left _ (List.mem_of_getElem? (i := 54) rfl))))) rfl
theorem tw_572 : Cond.methodLink "FewerLampsLaw" 93 ⟨"FewerLamps", "mist", "(I)I"⟩ ∈ TB := tb_mem (List.mem_append_right _ (List.mem_append_right _ (List.mem_append_right _ (List.mem_append_left _ (List.mem_of_getElem? (i := 55) rfl))))) rfl
theorem tw_573 : Cond.instanceMethod ⟨"FewerLamps", "mist", "(I)I"⟩ ∈ TB := tb_mem (List.mem_append_right _ (List.mem_append_right _ (List.mem_append_right _ (List.mem_append_left _ (List.mem_of_getElem? (i := 56) rfl))))) rfl
theorem tw_574 : Cond.selects "FewerLamps" ⟨"FewerLamps", "mist", "(I)I"⟩ ⟨"FewerLamps", "mist", "(I)I"⟩ ∈ TB := tb_mem (List.mem_append_right _ (List.mem_append_right _ (List.mem_append_right _ (List.mem_append_left _ (List.mem_of_getElem? (i := 57) rfl))))) rfl
theorem tw_575 : Cond.code ⟨"FewerLamps", "mist", "(I)I"⟩ prog_1_method_21_code 5 (Option.some FieldType.int) ∈ TB := tb_mem (List.mem_append_right _ (List.mem_append_right _ (List.mem_append_right _ (List.mem_append_left _ (List.mem_of_getElem? (i := 58) rfl))))) rfl
theorem tw_576 : Cond.methodLink "FewerLamps" 220 ⟨"FewerLamps", "standsInFog", "(I)I"⟩ ∈ TB := tb_mem (List.mem_append_right _ (List.mem_append_right _ (List.mem_append_right _ (List.mem_append_left _ (List.mem_of_getElem? (i := 59) rfl))))) rfl
theorem tw_578 : Cond.instanceMethod ⟨"FewerLamps", "standsInFog", "(I)I"⟩ ∈ TB := tb_mem (List.mem_append_right _ (List.mem_append_right _ (List.mem_append_right _ (List.mem_append_left _ (List.mem_of_getElem? (i := 61) rfl))))) rfl
theorem tw_579 : Cond.code ⟨"FewerLamps", "standsInFog", "(I)I"⟩ prog_1_method_31_code 2 (Option.some FieldType.int) ∈ TB := tb_mem (List.mem_append_right _ (List.mem_append_right _ (List.mem_append_right _ (List.mem_append_left _ (List.mem_of_getElem? (i := 62) rfl))))) rfl
theorem tw_580 : Cond.methodLink "FewerLampsLaw" 97 ⟨"FewerLamps", "flickers", "(II)I"⟩ ∈ TB := tb_mem (List.mem_append_right _ (List.mem_append_right _ (List.mem_append_right _ (List.mem_append_left _ (List.mem_of_getElem? (i := 63) rfl))))) rfl
theorem tw_581 : Cond.instanceMethod ⟨"FewerLamps", "flickers", "(II)I"⟩ ∈ TB := tb_mem (List.mem_append_right _ (List.mem_append_right _ (List.mem_append_right _ (List.mem_append_left _ (List.mem_of_getElem? (i := 64) rfl))))) rfl
theorem tw_582 : Cond.selects "FewerLamps" ⟨"FewerLamps", "flickers", "(II)I"⟩ ⟨"FewerLamps", "flickers", "(II)I"⟩ ∈ TB := tb_mem (List.mem_append_right _ (List.mem_append_right _ (List.mem_append_right _ (List.mem_append_left _ (List.mem_of_getElem? (i := 65) rfl))))) rfl
theorem tw_583 : Cond.code ⟨"FewerLamps", "flickers", "(II)I"⟩ prog_1_method_22_code 3 (Option.some FieldType.int) ∈ TB := tb_mem (List.mem_append_right _ (List.mem_append_right _ (List.mem_append_right _ (List.mem_append_left _ (List.mem_of_getElem? (i := 66) rfl))))) rfl
theorem tw_584 : Cond.methodLink "FewerLamps" 223 ⟨"FewerLamps$Hands", "countFlickers", "(II)V"⟩ ∈ TB := tb_mem (List.mem_append_right _ (List.mem_append_right _ (List.mem_append_right _ (List.mem_append_left _ (List.mem_of_getElem? (i := 67) rfl))))) rfl
theorem tw_585 : Cond.instanceMethod ⟨"FewerLamps$Hands", "countFlickers", "(II)V"⟩ ∈ TB := tb_mem (List.mem_append_right _ (List.mem_append_right _ (List.mem_append_right _ (List.mem_append_left _ (List.mem_of_getElem? (i := 68) rfl))))) rfl
theorem tw_586 : Cond.selects "FewerLamps$Hands" ⟨"FewerLamps$Hands", "countFlickers", "(II)V"⟩ ⟨"FewerLamps$Hands", "countFlickers", "(II)V"⟩ ∈ TB := tb_mem (List.mem_append_right _ (List.mem_append_right _ (List.mem_append_right _ (List.mem_append_left _ (List.mem_of_getElem? (i := 69) rfl))))) rfl
theorem tw_587 : Cond.code ⟨"FewerLamps$Hands", "countFlickers", "(II)V"⟩ prog_3_method_7_code 7 (Option.none : Option FieldType) ∈ TB := tb_mem (List.mem_append_right _ (List.mem_append_right _ (List.mem_append_right _ (List.mem_append_left _ (List.mem_of_getElem? (i := 70) rfl))))) rfl
theorem tw_588 : Cond.methodLink "FewerLamps$Hands" 70 ⟨"java/util/Arrays", "fill", "([II)V"⟩ ∈ TB := tb_mem (List.mem_append_right _ (List.mem_append_right _ (List.mem_append_right _ (List.mem_append_left _ (List.mem_of_getElem? (i := 71) rfl))))) rfl
theorem tw_589 : Cond.methodLink "FewerLamps" 227 ⟨"FewerLamps$Hands", "mostFlickering", "()I"⟩ ∈ TB := tb_mem (List.mem_append_right _ (List.mem_append_right _ (List.mem_append_right _ (List.mem_append_left _ (List.mem_of_getElem? (i := 72) rfl))))) rfl
theorem tw_590 : Cond.instanceMethod ⟨"FewerLamps$Hands", "mostFlickering", "()I"⟩ ∈ TB := tb_mem (List.mem_append_right _ (List.mem_append_right _ (List.mem_append_right _ (List.mem_append_left _ (List.mem_of_getElem? (i := 73) rfl))))) rfl
theorem tw_591 : Cond.selects "FewerLamps$Hands" ⟨"FewerLamps$Hands", "mostFlickering", "()I"⟩ ⟨"FewerLamps$Hands", "mostFlickering", "()I"⟩ ∈ TB := tb_mem (List.mem_append_right _ (List.mem_append_right _ (List.mem_append_right _ (List.mem_append_left _ (List.mem_of_getElem? (i := 74) rfl))))) rfl
theorem tw_592 : Cond.code ⟨"FewerLamps$Hands", "mostFlickering", "()I"⟩ prog_3_method_8_code 3 (Option.some FieldType.int) ∈ TB := tb_mem (List.mem_append_right _ (List.mem_append_right _ (List.mem_append_right _ (List.mem_append_left _ (List.mem_of_getElem? (i := 75) rfl))))) rfl
theorem tw_593 : Cond.methodLink "FewerLampsLaw" 101 ⟨"FewerLamps", "mark", "(II)I"⟩ ∈ TB := tb_mem (List.mem_append_right _ (List.mem_append_right _ (List.mem_append_right _ (List.mem_append_left _ (List.mem_of_getElem? (i := 76) rfl))))) rfl
theorem tw_594 : Cond.instanceMethod ⟨"FewerLamps", "mark", "(II)I"⟩ ∈ TB := tb_mem (List.mem_append_right _ (List.mem_append_right _ (List.mem_append_right _ (List.mem_append_left _ (List.mem_of_getElem? (i := 77) rfl))))) rfl
theorem tw_595 : Cond.selects "FewerLamps" ⟨"FewerLamps", "mark", "(II)I"⟩ ⟨"FewerLamps", "mark", "(II)I"⟩ ∈ TB := tb_mem (List.mem_append_right _ (List.mem_append_right _ (List.mem_append_right _ (List.mem_append_left _ (List.mem_of_getElem? (i := 78) rfl))))) rfl
theorem tw_596 : Cond.code ⟨"FewerLamps", "mark", "(II)I"⟩ prog_1_method_23_code 3 (Option.some FieldType.int) ∈ TB := tb_mem (List.mem_append_right _ (List.mem_append_right _ (List.mem_append_right _ (List.mem_append_left _ (List.mem_of_getElem? (i := 79) rfl))))) rfl
theorem tw_597 : Cond.constant "FewerLamps" 233 (-1000000 : Int32) ∈ TB := tb_mem (List.mem_append_right _ (List.mem_append_right _ (List.mem_append_right _ (List.mem_append_left _ (List.mem_of_getElem? (i := 80) rfl))))) rfl
theorem tw_598 : Cond.methodLink "FewerLamps" 234 ⟨"FewerLamps$Kinds", "markAs", "(II)I"⟩ ∈ TB := tb_mem (List.mem_append_right _ (List.mem_append_right _ (List.mem_append_right _ (List.mem_append_left _ (List.mem_of_getElem? (i := 81) rfl))))) rfl
theorem tw_599 : Cond.instanceMethod ⟨"FewerLamps$Kinds", "markAs", "(II)I"⟩ ∈ TB := tb_mem (List.mem_append_right _ (List.mem_append_right _ (List.mem_append_right _ (List.mem_append_left _ (List.mem_of_getElem? (i := 82) rfl))))) rfl
theorem tw_600 : Cond.selects "FewerLamps$Kinds" ⟨"FewerLamps$Kinds", "markAs", "(II)I"⟩ ⟨"FewerLamps$Kinds", "markAs", "(II)I"⟩ ∈ TB := tb_mem (List.mem_append_right _ (List.mem_append_right _ (List.mem_append_right _ (List.mem_append_left _ (List.mem_of_getElem? (i := 83) rfl))))) rfl
theorem tw_601 : Cond.code ⟨"FewerLamps$Kinds", "markAs", "(II)I"⟩ prog_4_method_2_code 3 (Option.some FieldType.int) ∈ TB := tb_mem (List.mem_append_right _ (List.mem_append_right _ (List.mem_append_right _ (List.mem_append_left _ (List.mem_of_getElem? (i := 84) rfl))))) rfl
theorem tw_602 : Cond.methodLink "FewerLamps$Kinds" 17 ⟨"FewerLamps$Kinds", "asCorner", "(I)I"⟩ ∈ TB := tb_mem (List.mem_append_right _ (List.mem_append_right _ (List.mem_append_right _ (List.mem_append_left _ (List.mem_of_getElem? (i := 85) rfl))))) rfl
theorem tw_604 : Cond.instanceMethod ⟨"FewerLamps$Kinds", "asCorner", "(I)I"⟩ ∈ TB := tb_mem (List.mem_append_right _ (List.mem_append_right _ (List.mem_append_right _ (List.mem_append_left _ (List.mem_of_getElem? (i := 87) rfl))))) rfl
theorem tw_605 : Cond.code ⟨"FewerLamps$Kinds", "asCorner", "(I)I"⟩ prog_4_method_4_code 2 (Option.some FieldType.int) ∈ TB := tb_mem (List.mem_append_right _ (List.mem_append_right _ (List.mem_append_right _ (List.mem_append_left _ (List.mem_of_getElem? (i := 88) rfl))))) rfl
theorem tw_606 : Cond.constantLong "FewerLamps$Kinds" 46 (10 : Int64) ∈ TB := tb_mem (List.mem_append_right _ (List.mem_append_right _ (List.mem_append_right _ (List.mem_append_left _ (List.mem_of_getElem? (i := 89) rfl))))) rfl
theorem tw_607 : Cond.methodLink "FewerLamps$Kinds" 33 ⟨"FewerLamps$Kinds", "asLamp", "(I)I"⟩ ∈ TB := tb_mem (List.mem_append_right _ (List.mem_append_right _ (List.mem_append_right _ (List.mem_append_left _ (List.mem_of_getElem? (i := 90) rfl))))) rfl
theorem tw_609 : Cond.instanceMethod ⟨"FewerLamps$Kinds", "asLamp", "(I)I"⟩ ∈ TB := tb_mem (List.mem_append_right _ (List.mem_append_right _ (List.mem_append_right _ (List.mem_append_left _ (List.mem_of_getElem? (i := 92) rfl))))) rfl
theorem tw_610 : Cond.code ⟨"FewerLamps$Kinds", "asLamp", "(I)I"⟩ prog_4_method_3_code 2 (Option.some FieldType.int) ∈ TB := tb_mem (List.mem_append_right _ (List.mem_append_right _ (List.mem_append_right _ (List.mem_append_left _ (List.mem_of_getElem? (i := 93) rfl))))) rfl
theorem tw_611 : Cond.methodLink "FewerLamps$Kinds" 54 ⟨"java/lang/Integer", "bitCount", "(I)I"⟩ ∈ TB := tb_mem (List.mem_append_right _ (List.mem_append_right _ (List.mem_append_right _ (List.mem_append_left _ (List.mem_of_getElem? (i := 94) rfl))))) rfl
theorem tw_612 : Cond.methodLink "FewerLamps$Kinds" 21 ⟨"FewerLamps$Kinds", "asBroken", "(I)I"⟩ ∈ TB := tb_mem (List.mem_append_right _ (List.mem_append_right _ (List.mem_append_right _ (List.mem_append_left _ (List.mem_of_getElem? (i := 95) rfl))))) rfl
theorem tw_614 : Cond.instanceMethod ⟨"FewerLamps$Kinds", "asBroken", "(I)I"⟩ ∈ TB := tb_mem (List.mem_append_right _ (List.mem_append_right _ (List.mem_append_right _ (List.mem_append_left _ (List.mem_of_getElem? (i := 97) rfl))))) rfl
theorem tw_615 : Cond.code ⟨"FewerLamps$Kinds", "asBroken", "(I)I"⟩ prog_4_method_5_code 2 (Option.some FieldType.int) ∈ TB := tb_mem (List.mem_append_right _ (List.mem_append_right _ (List.mem_append_right _ (List.mem_append_left _ (List.mem_of_getElem? (i := 98) rfl))))) rfl
theorem tw_616 : Cond.constantLong "FewerLamps$Kinds" 59 (100 : Int64) ∈ TB := tb_mem (List.mem_append_right _ (List.mem_append_right _ (List.mem_append_right _ (List.mem_append_left _ (List.mem_of_getElem? (i := 99) rfl))))) rfl
theorem tw_617 : Cond.methodLink "FewerLamps$Kinds" 24 ⟨"FewerLamps$Kinds", "asHarbour", "(I)I"⟩ ∈ TB := tb_mem (List.mem_append_right _ (List.mem_append_right _ (List.mem_append_right _ (List.mem_append_left _ (List.mem_of_getElem? (i := 100) rfl))))) rfl
theorem tw_619 : Cond.instanceMethod ⟨"FewerLamps$Kinds", "asHarbour", "(I)I"⟩ ∈ TB := tb_mem (List.mem_append_right _ (List.mem_append_right _ (List.mem_append_right _ (List.mem_append_left _ (List.mem_of_getElem? (i := 102) rfl))))) rfl
theorem tw_620 : Cond.code ⟨"FewerLamps$Kinds", "asHarbour", "(I)I"⟩ prog_4_method_6_code 2 (Option.some FieldType.int) ∈ TB := tb_mem (List.mem_append_right _ (List.mem_append_right _ (List.mem_append_right _ (List.mem_append_left _ (List.mem_of_getElem? (i := 103) rfl))))) rfl
theorem tw_621 : Cond.constantLong "FewerLamps$Kinds" 64 (1000 : Int64) ∈ TB := tb_mem (List.mem_append_right _ (List.mem_append_right _ (List.mem_append_right _ (List.mem_append_left _ (List.mem_of_getElem? (i := 104) rfl))))) rfl
theorem tw_622 : Cond.methodLink "FewerLamps$Kinds" 27 ⟨"FewerLamps$Kinds", "asAlley", "(I)I"⟩ ∈ TB := tb_mem (List.mem_append_right _ (List.mem_append_right _ (List.mem_append_right _ (List.mem_append_left _ (List.mem_of_getElem? (i := 105) rfl))))) rfl
theorem tw_624 : Cond.instanceMethod ⟨"FewerLamps$Kinds", "asAlley", "(I)I"⟩ ∈ TB := tb_mem (List.mem_append_right _ (List.mem_append_right _ (List.mem_append_right _ (List.mem_append_left _ (List.mem_of_getElem? (i := 107) rfl))))) rfl
theorem tw_625 : Cond.code ⟨"FewerLamps$Kinds", "asAlley", "(I)I"⟩ prog_4_method_7_code 2 (Option.some FieldType.int) ∈ TB := tb_mem (List.mem_append_right _ (List.mem_append_right _ (List.mem_append_right _ (List.mem_append_left _ (List.mem_of_getElem? (i := 108) rfl))))) rfl
theorem tw_626 : Cond.constantLong "FewerLamps$Kinds" 66 (10000 : Int64) ∈ TB := tb_mem (List.mem_append_right _ (List.mem_append_right _ (List.mem_append_right _ (List.mem_append_left _ (List.mem_of_getElem? (i := 109) rfl))))) rfl
theorem tw_627 : Cond.methodLink "FewerLamps$Kinds" 30 ⟨"FewerLamps$Kinds", "asBrides", "(I)I"⟩ ∈ TB := tb_mem (List.mem_append_right _ (List.mem_append_right _ (List.mem_append_right _ (List.mem_append_left _ (List.mem_of_getElem? (i := 110) rfl))))) rfl
theorem tw_629 : Cond.instanceMethod ⟨"FewerLamps$Kinds", "asBrides", "(I)I"⟩ ∈ TB := tb_mem (List.mem_append_right _ (List.mem_append_right _ (List.mem_append_right _ (List.mem_append_left _ (List.mem_of_getElem? (i := 112) rfl))))) rfl
theorem tw_630 : Cond.code ⟨"FewerLamps$Kinds", "asBrides", "(I)I"⟩ prog_4_method_8_code 2 (Option.some FieldType.int) ∈ TB := tb_mem (List.mem_append_right _ (List.mem_append_right _ (List.mem_append_right _ (List.mem_append_left _ (List.mem_of_getElem? (i := 113) rfl))))) rfl
theorem tw_631 : Cond.constantLong "FewerLamps$Kinds" 68 (100000 : Int64) ∈ TB := tb_mem (List.mem_append_right _ (List.mem_append_right _ (List.mem_append_right _ (List.mem_append_left _ (List.mem_of_getElem? (i := 114) rfl))))) rfl
theorem tw_632 : Cond.methodLink "FewerLampsLaw" 105 ⟨"FewerLamps", "keep", "(I)I"⟩ ∈ TB := tb_mem (List.mem_append_right _ (List.mem_append_right _ (List.mem_append_right _ (List.mem_append_left _ (List.mem_of_getElem? (i := 115) rfl))))) rfl
theorem tw_633 : Cond.instanceMethod ⟨"FewerLamps", "keep", "(I)I"⟩ ∈ TB := tb_mem (List.mem_append_right _ (List.mem_append_right _ (List.mem_append_right _ (List.mem_append_left _ (List.mem_of_getElem? (i := 116) rfl))))) rfl
theorem tw_634 : Cond.selects "FewerLamps" ⟨"FewerLamps", "keep", "(I)I"⟩ ⟨"FewerLamps", "keep", "(I)I"⟩ ∈ TB := tb_mem (List.mem_append_right _ (List.mem_append_right _ (List.mem_append_right _ (List.mem_append_left _ (List.mem_of_getElem? (i := 117) rfl))))) rfl
theorem tw_635 : Cond.code ⟨"FewerLamps", "keep", "(I)I"⟩ prog_1_method_24_code 2 (Option.some FieldType.int) ∈ TB := tb_mem (List.mem_append_right _ (List.mem_append_right _ (List.mem_append_right _ (List.mem_append_left _ (List.mem_of_getElem? (i := 118) rfl))))) rfl
theorem tw_636 : Cond.methodLink "FewerLamps" 237 ⟨"FewerLamps$Present", "take", "(LFewerLamps$Present;)V"⟩ ∈ TB := tb_mem (List.mem_append_right _ (List.mem_append_right _ (List.mem_append_right _ (List.mem_append_left _ (List.mem_of_getElem? (i := 119) rfl))))) rfl
theorem tw_637 : Cond.instanceMethod ⟨"FewerLamps$Present", "take", "(LFewerLamps$Present;)V"⟩ ∈ TB := tb_mem (List.mem_append_right _ (List.mem_append_right _ (List.mem_append_right _ (List.mem_append_left _ (List.mem_of_getElem? (i := 120) rfl))))) rfl
theorem tw_638 : Cond.selects "FewerLamps$Present" ⟨"FewerLamps$Present", "take", "(LFewerLamps$Present;)V"⟩ ⟨"FewerLamps$Present", "take", "(LFewerLamps$Present;)V"⟩ ∈ TB := tb_mem (List.mem_append_right _ (List.mem_append_right _ (List.mem_append_right _ (List.mem_append_left _ (List.mem_of_getElem? (i := 121) rfl))))) rfl
theorem tw_639 : Cond.code ⟨"FewerLamps$Present", "take", "(LFewerLamps$Present;)V"⟩ prog_5_method_5_code 2 (Option.none : Option FieldType) ∈ TB := tb_mem (List.mem_append_right _ (List.mem_append_right _ (List.mem_append_right _ (List.mem_append_left _ (List.mem_of_getElem? (i := 122) rfl))))) rfl
theorem tw_640 : Cond.methodLink "FewerLampsLaw" 109 ⟨"FewerLamps", "back", "(I)I"⟩ ∈ TB := tb_mem (List.mem_append_right _ (List.mem_append_right _ (List.mem_append_right _ (List.mem_append_left _ (List.mem_of_getElem? (i := 123) rfl))))) rfl
theorem tw_641 : Cond.instanceMethod ⟨"FewerLamps", "back", "(I)I"⟩ ∈ TB := tb_mem (List.mem_append_right _ (List.mem_append_right _ (List.mem_append_right _ (List.mem_append_left _ (List.mem_of_getElem? (i := 124) rfl))))) rfl
theorem tw_642 : Cond.selects "FewerLamps" ⟨"FewerLamps", "back", "(I)I"⟩ ⟨"FewerLamps", "back", "(I)I"⟩ ∈ TB := tb_mem (List.mem_append_right _ (List.mem_append_right _ (List.mem_append_right _ (List.mem_append_left _ (List.mem_of_getElem? (i := 125) rfl))))) rfl
theorem tw_643 : Cond.code ⟨"FewerLamps", "back", "(I)I"⟩ prog_1_method_25_code 2 (Option.some FieldType.int) ∈ TB := tb_mem (List.mem_append_right _ (List.mem_append_right _ (List.mem_append_right _ (List.mem_append_left _ (List.mem_of_getElem? (i := 126) rfl))))) rfl
theorem tw_644 : Cond.methodLink "FewerLampsLaw" 113 ⟨"FewerLamps", "count", "(I)I"⟩ ∈ TB := tb_mem (List.mem_append_right _ (List.mem_append_right _ (List.mem_append_right _ (List.mem_append_left _ (List.mem_of_getElem? (i := 127) rfl))))) rfl
theorem tw_645 : Cond.instanceMethod ⟨"FewerLamps", "count", "(I)I"⟩ ∈ TB := tb_mem (List.mem_append_right _ (List.mem_append_right _ (List.mem_append_right _ (List.mem_append_left _ (List.mem_of_getElem? (i := 128) rfl))))) rfl
theorem tw_646 : Cond.selects "FewerLamps" ⟨"FewerLamps", "count", "(I)I"⟩ ⟨"FewerLamps", "count", "(I)I"⟩ ∈ TB := tb_mem (List.mem_append_right _ (List.mem_append_right _ (List.mem_append_right _ (List.mem_append_left _ (List.mem_of_getElem? (i := 129) rfl))))) rfl
theorem tw_647 : Cond.code ⟨"FewerLamps", "count", "(I)I"⟩ prog_1_method_26_code 2 (Option.some FieldType.int) ∈ TB := tb_mem (List.mem_append_right _ (List.mem_append_right _ (List.mem_append_right _ (List.mem_append_left _ (List.mem_of_getElem? (i := 130) rfl))))) rfl
theorem tw_648 : Cond.methodLink "FewerLampsLaw" 117 ⟨"FewerLamps", "trace", "()J"⟩ ∈ TB := tb_mem (List.mem_append_right _ (List.mem_append_right _ (List.mem_append_right _ (List.mem_append_left _ (List.mem_of_getElem? (i := 131) rfl))))) rfl
theorem tw_649 : Cond.instanceMethod ⟨"FewerLamps", "trace", "()J"⟩ ∈ TB := tb_mem (List.mem_append_right _ (List.mem_append_right _ (List.mem_append_right _ (List.mem_append_left _ (List.mem_of_getElem? (i := 132) rfl))))) rfl
theorem tw_650 : Cond.selects "FewerLamps" ⟨"FewerLamps", "trace", "()J"⟩ ⟨"FewerLamps", "trace", "()J"⟩ ∈ TB := tb_mem (List.mem_append_right _ (List.mem_append_right _ (List.mem_append_right _ (List.mem_append_left _ (List.mem_of_getElem? (i := 133) rfl))))) rfl
theorem tw_651 : Cond.code ⟨"FewerLamps", "trace", "()J"⟩ prog_1_method_27_code 1 (Option.some FieldType.long) ∈ TB := tb_mem (List.mem_append_right _ (List.mem_append_right _ (List.mem_append_right _ (List.mem_append_left _ (List.mem_of_getElem? (i := 134) rfl))))) rfl
theorem tw_652 : Cond.classLink "FewerLampsLaw" 10 "FewerLampsModel" ∈ TB := tb_mem (List.mem_append_right _ (List.mem_append_right _ (List.mem_append_right _ (List.mem_append_left _ (List.mem_of_getElem? (i := 135) rfl))))) rfl
theorem tw_653 : Cond.instantiable "FewerLampsModel" 29 ∈ TB := tb_mem (List.mem_append_right _ (List.mem_append_right _ (List.mem_append_right _ (List.mem_append_left _ (List.mem_of_getElem? (i := 136) rfl))))) rfl
theorem tw_654 : Cond.methodLink "FewerLampsLaw" 12 ⟨"FewerLampsModel", "<init>", "()V"⟩ ∈ TB := tb_mem (List.mem_append_right _ (List.mem_append_right _ (List.mem_append_right _ (List.mem_append_left _ (List.mem_of_getElem? (i := 137) rfl))))) rfl
theorem tw_655 : Cond.instanceMethod ⟨"FewerLampsModel", "<init>", "()V"⟩ ∈ TB := tb_mem (List.mem_append_right _ (List.mem_append_right _ (List.mem_append_right _ (List.mem_append_left _ (List.mem_of_getElem? (i := 138) rfl))))) rfl
theorem tw_656 : Cond.code ⟨"FewerLampsModel", "<init>", "()V"⟩ prog_10_method_3_code 1 (Option.none : Option FieldType) ∈ TB := tb_mem (List.mem_append_right _ (List.mem_append_right _ (List.mem_append_right _ (List.mem_append_left _ (List.mem_of_getElem? (i := 139) rfl))))) rfl
theorem tw_657 : Cond.methodLink "FewerLampsModel" 1 ⟨"java/lang/Object", "<init>", "()V"⟩ ∈ TB := tb_mem (List.mem_append_right _ (List.mem_append_right _ (List.mem_append_right _ (List.mem_append_left _ (List.mem_of_getElem? (i := 140) rfl))))) rfl
theorem tw_658 : Cond.fieldLink "FewerLampsModel" 7 "FewerLampsModel" "text" "[I" ∈ TB := tb_mem (List.mem_append_right _ (List.mem_append_right _ (List.mem_append_right _ (List.mem_append_left _ (List.mem_of_getElem? (i := 141) rfl))))) rfl
theorem tw_659 : Cond.fieldLink "FewerLampsModel" 53 "FewerLampsModel" "size" "I" ∈ TB := tb_mem (List.mem_append_right _ (List.mem_append_right _ (List.mem_append_right _ (List.mem_append_left _ (List.mem_of_getElem? (i := 142) rfl))))) rfl
theorem tw_660 : Cond.fieldLink "FewerLampsModel" 64 "FewerLampsModel" "at" "I" ∈ TB := tb_mem (List.mem_append_right _ (List.mem_append_right _ (List.mem_append_right _ (List.mem_append_left _ (List.mem_of_getElem? (i := 143) rfl))))) rfl
theorem tw_661 : Cond.fieldLink "FewerLampsModel" 74 "FewerLampsModel" "begin" "I" ∈ TB := tb_mem (List.mem_append_right _ (List.mem_append_right _ (List.mem_append_right _ (List.mem_append_left _ (List.mem_of_getElem? (i := 144) rfl))))) rfl
theorem tw_662 : Cond.fieldLink "FewerLampsModel" 77 "FewerLampsModel" "token" "I" ∈ TB := tb_mem (List.mem_append_right _ (List.mem_append_right _ (List.mem_append_right _ (List.mem_append_left _ (List.mem_of_getElem? (i := 145) rfl))))) rfl
theorem tw_663 : Cond.fieldLink "FewerLampsModel" 67 "FewerLampsModel" "told" "I" ∈ TB := tb_mem (List.mem_append_right _ (List.mem_append_right _ (List.mem_append_right _ (List.mem_append_left _ (List.mem_of_getElem? (i := 146) rfl))))) rfl
theorem tw_664 : Cond.fieldLink "FewerLampsModel" 92 "FewerLampsModel" "readLamps" "I" ∈ TB := tb_mem (List.mem_append_right _ (List.mem_append_right _ (List.mem_append_right _ (List.mem_append_left _ (List.mem_of_getElem? (i := 147) rfl))))) rfl
theorem tw_665 : Cond.fieldLink "FewerLampsModel" 102 "FewerLampsModel" "readStreets" "I" ∈ TB := tb_mem (List.mem_append_right _ (List.mem_append_right _ (List.mem_append_right _ (List.mem_append_left _ (List.mem_of_getElem? (i := 148) rfl))))) rfl
theorem tw_666 : Cond.fieldLink "FewerLampsModel" 99 "FewerLampsModel" "readStand" "I" ∈ TB := tb_mem (List.mem_append_right _ (List.mem_append_right _ (List.mem_append_right _ (List.mem_append_left _ (List.mem_of_getElem? (i := 149) rfl))))) rfl
theorem tw_667 : Cond.fieldLink "FewerLampsModel" 13 "FewerLampsModel" "readRules" "[I" ∈ TB := tb_mem (List.mem_append_right _ (List.mem_append_right _ (List.mem_append_right _ (List.mem_append_left _ (List.mem_of_getElem? (i := 150) rfl))))) rfl
theorem tw_668 : Cond.fieldLink "FewerLampsModel" 16 "FewerLampsModel" "readA" "[I" ∈ TB := tb_mem (List.mem_append_right _ (List.mem_append_right _ (List.mem_append_right _ (List.mem_append_left _ (List.mem_of_getElem? (i := 151) rfl))))) rfl
theorem tw_669 : Cond.fieldLink "FewerLampsModel" 19 "FewerLampsModel" "readB" "[I" ∈ TB := tb_mem (List.mem_append_right _ (List.mem_append_right _ (List.mem_append_right _ (List.mem_append_left _ (List.mem_of_getElem? (i := 152) rfl))))) rfl
theorem tw_670 : Cond.fieldLink "FewerLampsModel" 43 "FewerLampsModel" "lamps" "I" ∈ TB := tb_mem (List.mem_append_right _ (List.mem_append_right _ (List.mem_append_right _ (List.mem_append_left _ (List.mem_of_getElem? (i := 153) rfl))))) rfl
theorem tw_671 : Cond.fieldLink "FewerLampsModel" 112 "FewerLampsModel" "streets" "I" ∈ TB := tb_mem (List.mem_append_right _ (List.mem_append_right _ (List.mem_append_right _ (List.mem_append_left _ (List.mem_of_getElem? (i := 154) rfl))))) rfl
theorem tw_672 : Cond.fieldLink "FewerLampsModel" 22 "FewerLampsModel" "rules" "[I" ∈ TB := tb_mem (List.mem_append_right _ (List.mem_append_right _ (List.mem_append_right _ (List.mem_append_left _ (List.mem_of_getElem? (i := 155) rfl))))) rfl
theorem tw_673 : Cond.fieldLink "FewerLampsModel" 25 "FewerLampsModel" "ones" "[I" ∈ TB := tb_mem (List.mem_append_right _ (List.mem_append_right _ (List.mem_append_right _ (List.mem_append_left _ (List.mem_of_getElem? (i := 156) rfl))))) rfl
theorem tw_674 : Cond.fieldLink "FewerLampsModel" 28 "FewerLampsModel" "others" "[I" ∈ TB := tb_mem (List.mem_append_right _ (List.mem_append_right _ (List.mem_append_right _ (List.mem_append_left _ (List.mem_of_getElem? (i := 157) rfl))))) rfl
theorem tw_675 : Cond.fieldLink "FewerLampsModel" 115 "FewerLampsModel" "bells" "I" ∈ TB := tb_mem (List.mem_append_right _ (List.mem_append_right _ (List.mem_append_right _ (List.mem_append_left _ (List.mem_of_getElem? (i := 158) rfl))))) rfl
theorem tw_676 : Cond.fieldLink "FewerLampsModel" 118 "FewerLampsModel" "stand" "I" ∈ TB := tb_mem (List.mem_append_right _ (List.mem_append_right _ (List.mem_append_right _ (List.mem_append_left _ (List.mem_of_getElem? (i := 159) rfl))))) rfl
theorem tw_677 : Cond.fieldLink "FewerLampsModel" 121 "FewerLampsModel" "turned" "I" ∈ TB := tb_mem (List.mem_append_right _ (List.mem_append_right _ (List.mem_append_right _ (List.mem_append_left _ (List.mem_of_getElem? (i := 160) rfl))))) rfl
theorem tw_678 : Cond.fieldLink "FewerLampsModel" 124 "FewerLampsModel" "fog" "I" ∈ TB := tb_mem (List.mem_append_right _ (List.mem_append_right _ (List.mem_append_right _ (List.mem_append_left _ (List.mem_of_getElem? (i := 161) rfl))))) rfl
theorem tw_679 : Cond.fieldLink "FewerLampsModel" 31 "FewerLampsModel" "near" "[I" ∈ TB := tb_mem (List.mem_append_right _ (List.mem_append_right _ (List.mem_append_right _ (List.mem_append_left _ (List.mem_of_getElem? (i := 162) rfl))))) rfl
theorem tw_680 : Cond.fieldLink "FewerLampsModel" 34 "FewerLampsModel" "undone" "[I" ∈ TB := tb_mem (List.mem_append_right _ (List.mem_append_right _ (List.mem_append_right _ (List.mem_append_left _ (List.mem_of_getElem? (i := 163) rfl))))) rfl
theorem tw_681 : Cond.fieldLink "FewerLampsModel" 127 "FewerLampsModel" "undos" "I" ∈ TB := tb_mem (List.mem_append_right _ (List.mem_append_right _ (List.mem_append_right _ (List.mem_append_left _ (List.mem_of_getElem? (i := 164) rfl))))) rfl
theorem tw_682 : Cond.fieldLink "FewerLampsModel" 158 "FewerLampsModel" "tail" "I" ∈ TB := tb_mem (List.mem_append_right _ (List.mem_append_right _ (List.mem_append_right _ (List.mem_append_left _ (List.mem_of_getElem? (i := 165) rfl))))) rfl
theorem tw_683 : Cond.fieldLink "FewerLampsModel" 161 "FewerLampsModel" "ring" "I" ∈ TB := tb_mem (List.mem_append_right _ (List.mem_append_right _ (List.mem_append_right _ (List.mem_append_left _ (List.mem_of_getElem? (i := 166) rfl))))) rfl
theorem tw_684 : Cond.fieldLink "FewerLampsModel" 37 "FewerLampsModel" "when" "[I" ∈ TB := tb_mem (List.mem_append_right _ (List.mem_append_right _ (List.mem_append_right _ (List.mem_append_left _ (List.mem_of_getElem? (i := 167) rfl))))) rfl
theorem tw_685 : Cond.fieldLink "FewerLampsModel" 182 "FewerLampsModel" "trace" "J" ∈ TB := tb_mem (List.mem_append_right _ (List.mem_append_right _ (List.mem_append_right _ (List.mem_append_left _ (List.mem_of_getElem? (i := 168) rfl))))) rfl
theorem tw_686 : Cond.fieldLink "FewerLampsModel" 40 "FewerLampsModel" "kept" "[I" ∈ TB := tb_mem (List.mem_append_right _ (List.mem_append_right _ (List.mem_append_right _ (List.mem_append_left _ (List.mem_of_getElem? (i := 169) rfl))))) rfl
theorem tw_687 : Cond.laysFinal "FewerLampsModel" "FewerLampsModel" "text" "[I" ∈ TB := tb_mem (List.mem_append_right _ (List.mem_append_right _ (List.mem_append_right _ (List.mem_append_left _ (List.mem_of_getElem? (i := 170) rfl))))) rfl
theorem tw_689 : Cond.lays "FewerLampsModel" "FewerLampsModel" "size" "I" ∈ TB := tb_mem (List.mem_append_right _ (List.mem_append_right _ (List.mem_append_right _ (List.mem_append_left _ (List.mem_of_getElem? (i := 172) rfl))))) rfl
theorem tw_691 : Cond.lays "FewerLampsModel" "FewerLampsModel" "at" "I" ∈ TB := tb_mem (List.mem_append_right _ (List.mem_append_right _ (List.mem_append_right _ (List.mem_append_left _ (List.mem_of_getElem? (i := 174) rfl))))) rfl
theorem tw_693 : Cond.lays "FewerLampsModel" "FewerLampsModel" "begin" "I" ∈ TB := tb_mem (List.mem_append_right _ (List.mem_append_right _ (List.mem_append_right _ (List.mem_append_left _ (List.mem_of_getElem? (i := 176) rfl))))) rfl
theorem tw_695 : Cond.lays "FewerLampsModel" "FewerLampsModel" "token" "I" ∈ TB := tb_mem (List.mem_append_right _ (List.mem_append_right _ (List.mem_append_right _ (List.mem_append_left _ (List.mem_of_getElem? (i := 178) rfl))))) rfl
theorem tw_697 : Cond.lays "FewerLampsModel" "FewerLampsModel" "told" "I" ∈ TB := tb_mem (List.mem_append_right _ (List.mem_append_right _ (List.mem_append_right _ (List.mem_append_left _ (List.mem_of_getElem? (i := 180) rfl))))) rfl
theorem tw_699 : Cond.lays "FewerLampsModel" "FewerLampsModel" "readLamps" "I" ∈ TB := tb_mem (List.mem_append_right _ (List.mem_append_right _ (List.mem_append_right _ (List.mem_append_left _ (List.mem_of_getElem? (i := 182) rfl))))) rfl
theorem tw_701 : Cond.lays "FewerLampsModel" "FewerLampsModel" "readStreets" "I" ∈ TB := tb_mem (List.mem_append_right _ (List.mem_append_right _ (List.mem_append_right _ (List.mem_append_left _ (List.mem_of_getElem? (i := 184) rfl))))) rfl
theorem tw_703 : Cond.lays "FewerLampsModel" "FewerLampsModel" "readStand" "I" ∈ TB := tb_mem (List.mem_append_right _ (List.mem_append_right _ (List.mem_append_right _ (List.mem_append_left _ (List.mem_of_getElem? (i := 186) rfl))))) rfl
theorem tw_705 : Cond.laysFinal "FewerLampsModel" "FewerLampsModel" "readRules" "[I" ∈ TB := tb_mem (List.mem_append_right _ (List.mem_append_right _ (List.mem_append_right _ (List.mem_append_left _ (List.mem_of_getElem? (i := 188) rfl))))) rfl
theorem tw_707 : Cond.laysFinal "FewerLampsModel" "FewerLampsModel" "readA" "[I" ∈ TB := tb_mem (List.mem_append_right _ (List.mem_append_right _ (List.mem_append_right _ (List.mem_append_left _ (List.mem_of_getElem? (i := 190) rfl))))) rfl
theorem tw_709 : Cond.laysFinal "FewerLampsModel" "FewerLampsModel" "readB" "[I" ∈ TB := tb_mem (List.mem_append_right _ (List.mem_append_right _ (List.mem_append_right _ (List.mem_append_left _ (List.mem_of_getElem? (i := 192) rfl))))) rfl
theorem tw_711 : Cond.lays "FewerLampsModel" "FewerLampsModel" "lamps" "I" ∈ TB := tb_mem (List.mem_append_right _ (List.mem_append_right _ (List.mem_append_right _ (List.mem_append_left _ (List.mem_of_getElem? (i := 194) rfl))))) rfl
theorem tw_713 : Cond.lays "FewerLampsModel" "FewerLampsModel" "streets" "I" ∈ TB := tb_mem (List.mem_append_right _ (List.mem_append_right _ (List.mem_append_right _ (List.mem_append_left _ (List.mem_of_getElem? (i := 196) rfl))))) rfl
theorem tw_715 : Cond.laysFinal "FewerLampsModel" "FewerLampsModel" "rules" "[I" ∈ TB := tb_mem (List.mem_append_right _ (List.mem_append_right _ (List.mem_append_right _ (List.mem_append_left _ (List.mem_of_getElem? (i := 198) rfl))))) rfl
theorem tw_717 : Cond.laysFinal "FewerLampsModel" "FewerLampsModel" "ones" "[I" ∈ TB := tb_mem (List.mem_append_right _ (List.mem_append_right _ (List.mem_append_right _ (List.mem_append_left _ (List.mem_of_getElem? (i := 200) rfl))))) rfl
theorem tw_719 : Cond.laysFinal "FewerLampsModel" "FewerLampsModel" "others" "[I" ∈ TB := tb_mem (List.mem_append_right _ (List.mem_append_right _ (List.mem_append_right _ (List.mem_append_left _ (List.mem_of_getElem? (i := 202) rfl))))) rfl
theorem tw_721 : Cond.lays "FewerLampsModel" "FewerLampsModel" "bells" "I" ∈ TB := tb_mem (List.mem_append_right _ (List.mem_append_right _ (List.mem_append_right _ (List.mem_append_left _ (List.mem_of_getElem? (i := 204) rfl))))) rfl
theorem tw_723 : Cond.lays "FewerLampsModel" "FewerLampsModel" "stand" "I" ∈ TB := tb_mem (List.mem_append_right _ (List.mem_append_right _ (List.mem_append_right _ (List.mem_append_left _ (List.mem_of_getElem? (i := 206) rfl))))) rfl
theorem tw_725 : Cond.lays "FewerLampsModel" "FewerLampsModel" "turned" "I" ∈ TB := tb_mem (List.mem_append_right _ (List.mem_append_right _ (List.mem_append_right _ (List.mem_append_left _ (List.mem_of_getElem? (i := 208) rfl))))) rfl
theorem tw_727 : Cond.lays "FewerLampsModel" "FewerLampsModel" "fog" "I" ∈ TB := tb_mem (List.mem_append_right _ (List.mem_append_right _ (List.mem_append_right _ (List.mem_append_left _ (List.mem_of_getElem? (i := 210) rfl))))) rfl
theorem tw_729 : Cond.laysFinal "FewerLampsModel" "FewerLampsModel" "near" "[I" ∈ TB := tb_mem (List.mem_append_right _ (List.mem_append_right _ (List.mem_append_right _ (List.mem_append_left _ (List.mem_of_getElem? (i := 212) rfl))))) rfl
theorem tw_731 : Cond.laysFinal "FewerLampsModel" "FewerLampsModel" "undone" "[I" ∈ TB := tb_mem (List.mem_append_right _ (List.mem_append_right _ (List.mem_append_right _ (List.mem_append_left _ (List.mem_of_getElem? (i := 214) rfl))))) rfl
theorem tw_733 : Cond.lays "FewerLampsModel" "FewerLampsModel" "undos" "I" ∈ TB := tb_mem (List.mem_append_right _ (List.mem_append_right _ (List.mem_append_right _ (List.mem_append_left _ (List.mem_of_getElem? (i := 216) rfl))))) rfl
theorem tw_735 : Cond.lays "FewerLampsModel" "FewerLampsModel" "tail" "I" ∈ TB := tb_mem (List.mem_append_right _ (List.mem_append_right _ (List.mem_append_right _ (List.mem_append_left _ (List.mem_of_getElem? (i := 218) rfl))))) rfl
theorem tw_737 : Cond.lays "FewerLampsModel" "FewerLampsModel" "ring" "I" ∈ TB := tb_mem (List.mem_append_right _ (List.mem_append_right _ (List.mem_append_right _ (List.mem_append_left _ (List.mem_of_getElem? (i := 220) rfl))))) rfl
theorem tw_739 : Cond.laysFinal "FewerLampsModel" "FewerLampsModel" "when" "[I" ∈ TB := tb_mem (List.mem_append_right _ (List.mem_append_right _ (List.mem_append_right _ (List.mem_append_left _ (List.mem_of_getElem? (i := 222) rfl))))) rfl
theorem tw_741 : Cond.lays "FewerLampsModel" "FewerLampsModel" "trace" "J" ∈ TB := tb_mem (List.mem_append_right _ (List.mem_append_right _ (List.mem_append_right _ (List.mem_append_left _ (List.mem_of_getElem? (i := 224) rfl))))) rfl
theorem tw_743 : Cond.laysFinal "FewerLampsModel" "FewerLampsModel" "kept" "[I" ∈ TB := tb_mem (List.mem_append_right _ (List.mem_append_right _ (List.mem_append_right _ (List.mem_append_left _ (List.mem_of_getElem? (i := 226) rfl))))) rfl
theorem tw_746 : Cond.methodLink "FewerLampsLaw" 17 ⟨"FewerLampsModel", "type", "(I)I"⟩ ∈ TB := tb_mem (List.mem_append_right _ (List.mem_append_right _ (List.mem_append_right _ (List.mem_append_left _ (List.mem_of_getElem? (i := 229) rfl))))) rfl
theorem tw_747 : Cond.instanceMethod ⟨"FewerLampsModel", "type", "(I)I"⟩ ∈ TB := tb_mem (List.mem_append_right _ (List.mem_append_right _ (List.mem_append_right _ (List.mem_append_left _ (List.mem_of_getElem? (i := 230) rfl))))) rfl
theorem tw_748 : Cond.selects "FewerLampsModel" ⟨"FewerLampsModel", "type", "(I)I"⟩ ⟨"FewerLampsModel", "type", "(I)I"⟩ ∈ TB := tb_mem (List.mem_append_right _ (List.mem_append_right _ (List.mem_append_right _ (List.mem_append_left _ (List.mem_of_getElem? (i := 231) rfl))))) rfl
theorem tw_749 : Cond.code ⟨"FewerLampsModel", "type", "(I)I"⟩ prog_10_method_4_code 2 (Option.some FieldType.int) ∈ TB := tb_mem (List.mem_append_right _ (List.mem_append_right _ (List.mem_append_right _ (List.mem_append_left _ (List.mem_of_getElem? (i := 232) rfl))))) rfl
theorem tw_750 : Cond.constantLong "FewerLampsModel" 47 (255 : Int64) ∈ TB := tb_mem (List.mem_append_right _ (List.mem_append_right _ (List.mem_append_right _ (List.mem_append_left _ (List.mem_of_getElem? (i := 233) rfl))))) rfl
theorem tw_751 : Cond.methodLink "FewerLampsModel" 49 ⟨"FewerLampsModel", "in", "(JJJ)Z"⟩ ∈ TB := tb_mem (List.mem_append_right _ (List.mem_append_right _ (List.mem_append_right _ (List.mem_append_left _ (List.mem_of_getElem? (i := 234) rfl))))) rfl
theorem tw_752 : Cond.static ⟨"FewerLampsModel", "in", "(JJJ)Z"⟩ ∈ TB := tb_mem (List.mem_append_right _ (List.mem_append_right _ (List.mem_append_right _ (List.mem_append_left _ (List.mem_of_getElem? (i := 235) rfl))))) rfl
theorem tw_753 : Cond.code ⟨"FewerLampsModel", "in", "(JJJ)Z"⟩ prog_10_method_2_code 6 (Option.some FieldType.boolean) ∈ TB := tb_mem (List.mem_append_right _ (List.mem_append_right _ (List.mem_append_right _ (List.mem_append_left _ (List.mem_of_getElem? (i := 236) rfl))))) rfl
theorem tw_754 : Cond.methodLink "FewerLampsLaw" 22 ⟨"FewerLampsModel", "clear", "()I"⟩ ∈ TB := tb_mem (List.mem_append_right _ (List.mem_append_right _ (List.mem_append_right _ (List.mem_append_left _ (List.mem_of_getElem? (i := 237) rfl))))) rfl
theorem tw_755 : Cond.instanceMethod ⟨"FewerLampsModel", "clear", "()I"⟩ ∈ TB := tb_mem (List.mem_append_right _ (List.mem_append_right _ (List.mem_append_right _ (List.mem_append_left _ (List.mem_of_getElem? (i := 238) rfl))))) rfl
theorem tw_756 : Cond.selects "FewerLampsModel" ⟨"FewerLampsModel", "clear", "()I"⟩ ⟨"FewerLampsModel", "clear", "()I"⟩ ∈ TB := tb_mem (List.mem_append_right _ (List.mem_append_right _ (List.mem_append_right _ (List.mem_append_left _ (List.mem_of_getElem? (i := 239) rfl))))) rfl
theorem tw_757 : Cond.code ⟨"FewerLampsModel", "clear", "()I"⟩ prog_10_method_5_code 2 (Option.some FieldType.int) ∈ TB := tb_mem (List.mem_append_right _ (List.mem_append_right _ (List.mem_append_right _ (List.mem_append_right _ (List.mem_of_getElem? (i := 0) rfl))))) rfl
theorem tw_758 : Cond.methodLink "FewerLampsLaw" 26 ⟨"FewerLampsModel", "town", "()I"⟩ ∈ TB := tb_mem (List.mem_append_right _ (List.mem_append_right _ (List.mem_append_right _ (List.mem_append_right _ (List.mem_of_getElem? (i := 1) rfl))))) rfl
theorem tw_759 : Cond.instanceMethod ⟨"FewerLampsModel", "town", "()I"⟩ ∈ TB := tb_mem (List.mem_append_right _ (List.mem_append_right _ (List.mem_append_right _ (List.mem_append_right _ (List.mem_of_getElem? (i := 2) rfl))))) rfl
theorem tw_760 : Cond.selects "FewerLampsModel" ⟨"FewerLampsModel", "town", "()I"⟩ ⟨"FewerLampsModel", "town", "()I"⟩ ∈ TB := tb_mem (List.mem_append_right _ (List.mem_append_right _ (List.mem_append_right _ (List.mem_append_right _ (List.mem_of_getElem? (i := 3) rfl))))) rfl
theorem tw_761 : Cond.code ⟨"FewerLampsModel", "town", "()I"⟩ prog_10_method_14_code 3 (Option.some FieldType.int) ∈ TB := tb_mem (List.mem_append_right _ (List.mem_append_right _ (List.mem_append_right _ (List.mem_append_right _ (List.mem_of_getElem? (i := 4) rfl))))) rfl
theorem tw_762 : Cond.methodLink "FewerLampsModel" 89 ⟨"FewerLampsModel", "reads", "()V"⟩ ∈ TB := tb_mem (List.mem_append_right _ (List.mem_append_right _ (List.mem_append_right _ (List.mem_append_right _ (List.mem_of_getElem? (i := 5) rfl))))) rfl
theorem tw_764 : Cond.instanceMethod ⟨"FewerLampsModel", "reads", "()V"⟩ ∈ TB := tb_mem (List.mem_append_right _ (List.mem_append_right _ (List.mem_append_right _ (List.mem_append_right _ (List.mem_of_getElem? (i := 7) rfl))))) rfl
theorem tw_765 : Cond.code ⟨"FewerLampsModel", "reads", "()V"⟩ prog_10_method_10_code 1 (Option.none : Option FieldType) ∈ TB := tb_mem (List.mem_append_right _ (List.mem_append_right _ (List.mem_append_right _ (List.mem_append_right _ (List.mem_of_getElem? (i := 8) rfl))))) rfl
theorem tw_766 : Cond.methodLink "FewerLampsModel" 70 ⟨"FewerLampsModel", "isLetter", "(I)Z"⟩ ∈ TB := tb_mem (List.mem_append_right _ (List.mem_append_right _ (List.mem_append_right _ (List.mem_append_right _ (List.mem_of_getElem? (i := 9) rfl))))) rfl
theorem tw_767 : Cond.static ⟨"FewerLampsModel", "isLetter", "(I)Z"⟩ ∈ TB := tb_mem (List.mem_append_right _ (List.mem_append_right _ (List.mem_append_right _ (List.mem_append_right _ (List.mem_of_getElem? (i := 10) rfl))))) rfl
theorem tw_768 : Cond.code ⟨"FewerLampsModel", "isLetter", "(I)Z"⟩ prog_10_method_6_code 1 (Option.some FieldType.boolean) ∈ TB := tb_mem (List.mem_append_right _ (List.mem_append_right _ (List.mem_append_right _ (List.mem_append_right _ (List.mem_of_getElem? (i := 11) rfl))))) rfl
theorem tw_769 : Cond.constantLong "FewerLampsModel" 56 (97 : Int64) ∈ TB := tb_mem (List.mem_append_right _ (List.mem_append_right _ (List.mem_append_right _ (List.mem_append_right _ (List.mem_of_getElem? (i := 12) rfl))))) rfl
theorem tw_770 : Cond.constantLong "FewerLampsModel" 58 (122 : Int64) ∈ TB := tb_mem (List.mem_append_right _ (List.mem_append_right _ (List.mem_append_right _ (List.mem_append_right _ (List.mem_of_getElem? (i := 13) rfl))))) rfl
theorem tw_771 : Cond.methodLink "FewerLampsModel" 83 ⟨"FewerLampsModel", "readLetters", "()V"⟩ ∈ TB := tb_mem (List.mem_append_right _ (List.mem_append_right _ (List.mem_append_right _ (List.mem_append_right _ (List.mem_of_getElem? (i := 14) rfl))))) rfl
theorem tw_773 : Cond.instanceMethod ⟨"FewerLampsModel", "readLetters", "()V"⟩ ∈ TB := tb_mem (List.mem_append_right _ (List.mem_append_right _ (List.mem_append_right _ (List.mem_append_right _ (List.mem_of_getElem? (i := 16) rfl))))) rfl
theorem tw_774 : Cond.code ⟨"FewerLampsModel", "readLetters", "()V"⟩ prog_10_method_8_code 1 (Option.none : Option FieldType) ∈ TB := tb_mem (List.mem_append_right _ (List.mem_append_right _ (List.mem_append_right _ (List.mem_append_right _ (List.mem_of_getElem? (i := 17) rfl))))) rfl
theorem tw_775 : Cond.methodLink "FewerLampsModel" 80 ⟨"FewerLampsModel", "isFigure", "(I)Z"⟩ ∈ TB := tb_mem (List.mem_append_right _ (List.mem_append_right _ (List.mem_append_right _ (List.mem_append_right _ (List.mem_of_getElem? (i := 18) rfl))))) rfl
theorem tw_776 : Cond.static ⟨"FewerLampsModel", "isFigure", "(I)Z"⟩ ∈ TB := tb_mem (List.mem_append_right _ (List.mem_append_right _ (List.mem_append_right _ (List.mem_append_right _ (List.mem_of_getElem? (i := 19) rfl))))) rfl
theorem tw_777 : Cond.code ⟨"FewerLampsModel", "isFigure", "(I)Z"⟩ prog_10_method_7_code 1 (Option.some FieldType.boolean) ∈ TB := tb_mem (List.mem_append_right _ (List.mem_append_right _ (List.mem_append_right _ (List.mem_append_right _ (List.mem_of_getElem? (i := 20) rfl))))) rfl
theorem tw_778 : Cond.constantLong "FewerLampsModel" 60 (48 : Int64) ∈ TB := tb_mem (List.mem_append_right _ (List.mem_append_right _ (List.mem_append_right _ (List.mem_append_right _ (List.mem_of_getElem? (i := 21) rfl))))) rfl
theorem tw_779 : Cond.constantLong "FewerLampsModel" 62 (57 : Int64) ∈ TB := tb_mem (List.mem_append_right _ (List.mem_append_right _ (List.mem_append_right _ (List.mem_append_right _ (List.mem_of_getElem? (i := 22) rfl))))) rfl
theorem tw_780 : Cond.methodLink "FewerLampsModel" 86 ⟨"FewerLampsModel", "readNumber", "()V"⟩ ∈ TB := tb_mem (List.mem_append_right _ (List.mem_append_right _ (List.mem_append_right _ (List.mem_append_right _ (List.mem_of_getElem? (i := 23) rfl))))) rfl
theorem tw_782 : Cond.instanceMethod ⟨"FewerLampsModel", "readNumber", "()V"⟩ ∈ TB := tb_mem (List.mem_append_right _ (List.mem_append_right _ (List.mem_append_right _ (List.mem_append_right _ (List.mem_of_getElem? (i := 25) rfl))))) rfl
theorem tw_783 : Cond.code ⟨"FewerLampsModel", "readNumber", "()V"⟩ prog_10_method_9_code 2 (Option.none : Option FieldType) ∈ TB := tb_mem (List.mem_append_right _ (List.mem_append_right _ (List.mem_append_right _ (List.mem_append_right _ (List.mem_of_getElem? (i := 26) rfl))))) rfl
theorem tw_784 : Cond.methodLink "FewerLampsModel" 105 ⟨"FewerLampsModel", "readLamp", "()Z"⟩ ∈ TB := tb_mem (List.mem_append_right _ (List.mem_append_right _ (List.mem_append_right _ (List.mem_append_right _ (List.mem_of_getElem? (i := 27) rfl))))) rfl
theorem tw_786 : Cond.instanceMethod ⟨"FewerLampsModel", "readLamp", "()Z"⟩ ∈ TB := tb_mem (List.mem_append_right _ (List.mem_append_right _ (List.mem_append_right _ (List.mem_append_right _ (List.mem_of_getElem? (i := 29) rfl))))) rfl
theorem tw_787 : Cond.code ⟨"FewerLampsModel", "readLamp", "()Z"⟩ prog_10_method_12_code 1 (Option.some FieldType.boolean) ∈ TB := tb_mem (List.mem_append_right _ (List.mem_append_right _ (List.mem_append_right _ (List.mem_append_right _ (List.mem_of_getElem? (i := 30) rfl))))) rfl
theorem tw_788 : Cond.methodLink "FewerLampsModel" 95 ⟨"FewerLampsModel", "number", "(II)Z"⟩ ∈ TB := tb_mem (List.mem_append_right _ (List.mem_append_right _ (List.mem_append_right _ (List.mem_append_right _ (List.mem_of_getElem? (i := 31) rfl))))) rfl
theorem tw_790 : Cond.instanceMethod ⟨"FewerLampsModel", "number", "(II)Z"⟩ ∈ TB := tb_mem (List.mem_append_right _ (List.mem_append_right _ (List.mem_append_right _ (List.mem_append_right _ (List.mem_of_getElem? (i := 33) rfl))))) rfl
theorem tw_791 : Cond.code ⟨"FewerLampsModel", "number", "(II)Z"⟩ prog_10_method_11_code 3 (Option.some FieldType.boolean) ∈ TB := tb_mem (List.mem_append_right _ (List.mem_append_right _ (List.mem_append_right _ (List.mem_append_right _ (List.mem_of_getElem? (i := 34) rfl))))) rfl
theorem tw_792 : Cond.methodLink "FewerLampsModel" 109 ⟨"FewerLampsModel", "readStreet", "()Z"⟩ ∈ TB := tb_mem (List.mem_append_right _ (List.mem_append_right _ (List.mem_append_right _ (List.mem_append_right _ (List.mem_of_getElem? (i := 35) rfl))))) rfl
theorem tw_794 : Cond.instanceMethod ⟨"FewerLampsModel", "readStreet", "()Z"⟩ ∈ TB := tb_mem (List.mem_append_right _ (List.mem_append_right _ (List.mem_append_right _ (List.mem_append_right _ (List.mem_of_getElem? (i := 37) rfl))))) rfl
theorem tw_795 : Cond.code ⟨"FewerLampsModel", "readStreet", "()Z"⟩ prog_10_method_13_code 5 (Option.some FieldType.boolean) ∈ TB := tb_mem (List.mem_append_right _ (List.mem_append_right _ (List.mem_append_right _ (List.mem_append_right _ (List.mem_of_getElem? (i := 38) rfl))))) rfl
theorem tw_796 : Cond.methodLink "FewerLampsLaw" 31 ⟨"FewerLampsModel", "lamp", "(II)I"⟩ ∈ TB := tb_mem (List.mem_append_right _ (List.mem_append_right _ (List.mem_append_right _ (List.mem_append_right _ (List.mem_of_getElem? (i := 39) rfl))))) rfl
theorem tw_797 : Cond.instanceMethod ⟨"FewerLampsModel", "lamp", "(II)I"⟩ ∈ TB := tb_mem (List.mem_append_right _ (List.mem_append_right _ (List.mem_append_right _ (List.mem_append_right _ (List.mem_of_getElem? (i := 40) rfl))))) rfl
theorem tw_798 : Cond.selects "FewerLampsModel" ⟨"FewerLampsModel", "lamp", "(II)I"⟩ ⟨"FewerLampsModel", "lamp", "(II)I"⟩ ∈ TB := tb_mem (List.mem_append_right _ (List.mem_append_right _ (List.mem_append_right _ (List.mem_append_right _ (List.mem_of_getElem? (i := 41) rfl))))) rfl
theorem tw_799 : Cond.code ⟨"FewerLampsModel", "lamp", "(II)I"⟩ prog_10_method_19_code 3 (Option.some FieldType.int) ∈ TB := tb_mem (List.mem_append_right _ (List.mem_append_right _ (List.mem_append_right _ (List.mem_append_right _ (List.mem_of_getElem? (i := 42) rfl))))) rfl
theorem tw_800 : Cond.methodLink "FewerLampsModel" 130 ⟨"FewerLampsModel", "isLamp", "(I)Z"⟩ ∈ TB := tb_mem (List.mem_append_right _ (List.mem_append_right _ (List.mem_append_right _ (List.mem_append_right _ (List.mem_of_getElem? (i := 43) rfl))))) rfl
theorem tw_802 : Cond.instanceMethod ⟨"FewerLampsModel", "isLamp", "(I)Z"⟩ ∈ TB := tb_mem (List.mem_append_right _ (List.mem_append_right _ (List.mem_append_right _ (List.mem_append_right _ (List.mem_of_getElem? (i := 45) rfl))))) rfl
theorem tw_803 : Cond.code ⟨"FewerLampsModel", "isLamp", "(I)Z"⟩ prog_10_method_15_code 2 (Option.some FieldType.boolean) ∈ TB := tb_mem (List.mem_append_right _ (List.mem_append_right _ (List.mem_append_right _ (List.mem_append_right _ (List.mem_of_getElem? (i := 46) rfl))))) rfl
theorem tw_804 : Cond.methodLink "FewerLampsModel" 133 ⟨"FewerLampsModel", "beside", "(II)I"⟩ ∈ TB := tb_mem (List.mem_append_right _ (List.mem_append_right _ (List.mem_append_right _ (List.mem_append_right _ (List.mem_of_getElem? (i := 47) rfl))))) rfl
theorem tw_806 : Cond.instanceMethod ⟨"FewerLampsModel", "beside", "(II)I"⟩ ∈ TB := tb_mem (List.mem_append_right _ (List.mem_append_right _ (List.mem_append_right _ (List.mem_append_right _ (List.mem_of_getElem? (i := 49) rfl))))) rfl
theorem tw_807 : Cond.code ⟨"FewerLampsModel", "beside", "(II)I"⟩ prog_10_method_18_code 6 (Option.some FieldType.int) ∈ TB := tb_mem (List.mem_append_right _ (List.mem_append_right _ (List.mem_append_right _ (List.mem_append_right _ (List.mem_of_getElem? (i := 50) rfl))))) rfl
theorem tw_808 : Cond.methodLink "FewerLampsModel" 137 ⟨"FewerLampsModel", "many", "(I)I"⟩ ∈ TB := tb_mem (List.mem_append_right _ (List.mem_append_right _ (List.mem_append_right _ (List.mem_append_right _ (List.mem_of_getElem? (i := 51) rfl))))) rfl
theorem tw_809 : Cond.static ⟨"FewerLampsModel", "many", "(I)I"⟩ ∈ TB := tb_mem (List.mem_append_right _ (List.mem_append_right _ (List.mem_append_right _ (List.mem_append_right _ (List.mem_of_getElem? (i := 52) rfl))))) rfl
theorem tw_810 : Cond.code ⟨"FewerLampsModel", "many", "(I)I"⟩ prog_10_method_17_code 3 (Option.some FieldType.int) ∈ TB := tb_mem (List.mem_append_right _ (List.mem_append_right _ (List.mem_append_right _ (List.mem_append_right _ (List.mem_of_getElem? (i := 53) rfl))))) rfl
theorem tw_811 : Cond.methodLink "FewerLampsLaw" 35 ⟨"FewerLampsModel", "street", "(II)I"⟩ ∈ TB := tb_mem (List.mem_append_right _ (List.mem_append_right _ (List.mem_append_right _ (List.mem_append_right _ (List.mem_of_getElem? (i := 54) rfl))))) rfl
theorem tw_812 : Cond.instanceMethod ⟨"FewerLampsModel", "street", "(II)I"⟩ ∈ TB := tb_mem (List.mem_append_right _ (List.mem_append_right _ (List.mem_append_right _ (List.mem_append_right _ (List.mem_of_getElem? (i := 55) rfl))))) rfl
theorem tw_813 : Cond.selects "FewerLampsModel" ⟨"FewerLampsModel", "street", "(II)I"⟩ ⟨"FewerLampsModel", "street", "(II)I"⟩ ∈ TB := tb_mem (List.mem_append_right _ (List.mem_append_right _ (List.mem_append_right _ (List.mem_append_right _ (List.mem_of_getElem? (i := 56) rfl))))) rfl
theorem tw_814 : Cond.code ⟨"FewerLampsModel", "street", "(II)I"⟩ prog_10_method_20_code 3 (Option.some FieldType.int) ∈ TB := tb_mem (List.mem_append_right _ (List.mem_append_right _ (List.mem_append_right _ (List.mem_append_right _ (List.mem_of_getElem? (i := 57) rfl))))) rfl
theorem tw_815 : Cond.constantLong "FewerLampsModel" 141 (2 : Int64) ∈ TB := tb_mem (List.mem_append_right _ (List.mem_append_right _ (List.mem_append_right _ (List.mem_append_right _ (List.mem_of_getElem? (i := 58) rfl))))) rfl
theorem tw_816 : Cond.methodLink "FewerLampsLaw" 39 ⟨"FewerLampsModel", "bell", "()I"⟩ ∈ TB := tb_mem (List.mem_append_right _ (List.mem_append_right _ (List.mem_append_right _ (List.mem_append_right _ (List.mem_of_getElem? (i := 59) rfl))))) rfl
theorem tw_817 : Cond.instanceMethod ⟨"FewerLampsModel", "bell", "()I"⟩ ∈ TB := tb_mem (List.mem_append_right _ (List.mem_append_right _ (List.mem_append_right _ (List.mem_append_right _ (List.mem_of_getElem? (i := 60) rfl))))) rfl
theorem tw_818 : Cond.selects "FewerLampsModel" ⟨"FewerLampsModel", "bell", "()I"⟩ ⟨"FewerLampsModel", "bell", "()I"⟩ ∈ TB := tb_mem (List.mem_append_right _ (List.mem_append_right _ (List.mem_append_right _ (List.mem_append_right _ (List.mem_of_getElem? (i := 61) rfl))))) rfl
theorem tw_819 : Cond.code ⟨"FewerLampsModel", "bell", "()I"⟩ prog_10_method_24_code 1 (Option.some FieldType.int) ∈ TB := tb_mem (List.mem_append_right _ (List.mem_append_right _ (List.mem_append_right _ (List.mem_append_right _ (List.mem_of_getElem? (i := 62) rfl))))) rfl
theorem tw_820 : Cond.methodLink "FewerLampsModel" 143 ⟨"FewerLampsModel", "notes", "()V"⟩ ∈ TB := tb_mem (List.mem_append_right _ (List.mem_append_right _ (List.mem_append_right _ (List.mem_append_right _ (List.mem_of_getElem? (i := 63) rfl))))) rfl
theorem tw_822 : Cond.instanceMethod ⟨"FewerLampsModel", "notes", "()V"⟩ ∈ TB := tb_mem (List.mem_append_right _ (List.mem_append_right _ (List.mem_append_right _ (List.mem_append_right _ (List.mem_of_getElem? (i := 65) rfl))))) rfl
theorem tw_823 : Cond.code ⟨"FewerLampsModel", "notes", "()V"⟩ prog_10_method_23_code 2 (Option.none : Option FieldType) ∈ TB := tb_mem (List.mem_append_right _ (List.mem_append_right _ (List.mem_append_right _ (List.mem_append_right _ (List.mem_of_getElem? (i := 66) rfl))))) rfl
theorem tw_824 : Cond.methodLink "FewerLampsModel" 146 ⟨"FewerLampsModel", "looks", "(I)V"⟩ ∈ TB := tb_mem (List.mem_append_right _ (List.mem_append_right _ (List.mem_append_right _ (List.mem_append_right _ (List.mem_of_getElem? (i := 67) rfl))))) rfl
theorem tw_826 : Cond.instanceMethod ⟨"FewerLampsModel", "looks", "(I)V"⟩ ∈ TB := tb_mem (List.mem_append_right _ (List.mem_append_right _ (List.mem_append_right _ (List.mem_append_right _ (List.mem_of_getElem? (i := 69) rfl))))) rfl
theorem tw_827 : Cond.code ⟨"FewerLampsModel", "looks", "(I)V"⟩ prog_10_method_21_code 3 (Option.none : Option FieldType) ∈ TB := tb_mem (List.mem_append_right _ (List.mem_append_right _ (List.mem_append_right _ (List.mem_append_right _ (List.mem_of_getElem? (i := 70) rfl))))) rfl
theorem tw_828 : Cond.methodLink "FewerLampsModel" 150 ⟨"FewerLampsModel", "rings", "(I)I"⟩ ∈ TB := tb_mem (List.mem_append_right _ (List.mem_append_right _ (List.mem_append_right _ (List.mem_append_right _ (List.mem_of_getElem? (i := 71) rfl))))) rfl
theorem tw_830 : Cond.instanceMethod ⟨"FewerLampsModel", "rings", "(I)I"⟩ ∈ TB := tb_mem (List.mem_append_right _ (List.mem_append_right _ (List.mem_append_right _ (List.mem_append_right _ (List.mem_of_getElem? (i := 73) rfl))))) rfl
theorem tw_831 : Cond.code ⟨"FewerLampsModel", "rings", "(I)I"⟩ prog_10_method_22_code 8 (Option.some FieldType.int) ∈ TB := tb_mem (List.mem_append_right _ (List.mem_append_right _ (List.mem_append_right _ (List.mem_append_right _ (List.mem_of_getElem? (i := 74) rfl))))) rfl
theorem tw_832 : Cond.methodLink "FewerLampsLaw" 43 ⟨"FewerLampsModel", "turn", "(I)I"⟩ ∈ TB := tb_mem (List.mem_append_right _ (List.mem_append_right _ (List.mem_append_right _ (List.mem_append_right _ (List.mem_of_getElem? (i := 75) rfl))))) rfl
theorem tw_833 : Cond.instanceMethod ⟨"FewerLampsModel", "turn", "(I)I"⟩ ∈ TB := tb_mem (List.mem_append_right _ (List.mem_append_right _ (List.mem_append_right _ (List.mem_append_right _ (List.mem_of_getElem? (i := 76) rfl))))) rfl
theorem tw_834 : Cond.selects "FewerLampsModel" ⟨"FewerLampsModel", "turn", "(I)I"⟩ ⟨"FewerLampsModel", "turn", "(I)I"⟩ ∈ TB := tb_mem (List.mem_append_right _ (List.mem_append_right _ (List.mem_append_right _ (List.mem_append_right _ (List.mem_of_getElem? (i := 77) rfl))))) rfl
theorem tw_835 : Cond.code ⟨"FewerLampsModel", "turn", "(I)I"⟩ prog_10_method_25_code 2 (Option.some FieldType.int) ∈ TB := tb_mem (List.mem_append_right _ (List.mem_append_right _ (List.mem_append_right _ (List.mem_append_right _ (List.mem_of_getElem? (i := 78) rfl))))) rfl
theorem tw_836 : Cond.methodLink "FewerLampsLaw" 47 ⟨"FewerLampsModel", "fog", "(II)I"⟩ ∈ TB := tb_mem (List.mem_append_right _ (List.mem_append_right _ (List.mem_append_right _ (List.mem_append_right _ (List.mem_of_getElem? (i := 79) rfl))))) rfl
theorem tw_837 : Cond.instanceMethod ⟨"FewerLampsModel", "fog", "(II)I"⟩ ∈ TB := tb_mem (List.mem_append_right _ (List.mem_append_right _ (List.mem_append_right _ (List.mem_append_right _ (List.mem_of_getElem? (i := 80) rfl))))) rfl
theorem tw_838 : Cond.selects "FewerLampsModel" ⟨"FewerLampsModel", "fog", "(II)I"⟩ ⟨"FewerLampsModel", "fog", "(II)I"⟩ ∈ TB := tb_mem (List.mem_append_right _ (List.mem_append_right _ (List.mem_append_right _ (List.mem_append_right _ (List.mem_of_getElem? (i := 81) rfl))))) rfl
theorem tw_839 : Cond.code ⟨"FewerLampsModel", "fog", "(II)I"⟩ prog_10_method_26_code 3 (Option.some FieldType.int) ∈ TB := tb_mem (List.mem_append_right _ (List.mem_append_right _ (List.mem_append_right _ (List.mem_append_right _ (List.mem_of_getElem? (i := 82) rfl))))) rfl
theorem tw_840 : Cond.methodLink "FewerLampsLaw" 51 ⟨"FewerLampsModel", "undo", "()I"⟩ ∈ TB := tb_mem (List.mem_append_right _ (List.mem_append_right _ (List.mem_append_right _ (List.mem_append_right _ (List.mem_of_getElem? (i := 83) rfl))))) rfl
theorem tw_841 : Cond.instanceMethod ⟨"FewerLampsModel", "undo", "()I"⟩ ∈ TB := tb_mem (List.mem_append_right _ (List.mem_append_right _ (List.mem_append_right _ (List.mem_append_right _ (List.mem_of_getElem? (i := 84) rfl))))) rfl
theorem tw_842 : Cond.selects "FewerLampsModel" ⟨"FewerLampsModel", "undo", "()I"⟩ ⟨"FewerLampsModel", "undo", "()I"⟩ ∈ TB := tb_mem (List.mem_append_right _ (List.mem_append_right _ (List.mem_append_right _ (List.mem_append_right _ (List.mem_of_getElem? (i := 85) rfl))))) rfl
theorem tw_843 : Cond.code ⟨"FewerLampsModel", "undo", "()I"⟩ prog_10_method_27_code 1 (Option.some FieldType.int) ∈ TB := tb_mem (List.mem_append_right _ (List.mem_append_right _ (List.mem_append_right _ (List.mem_append_right _ (List.mem_of_getElem? (i := 86) rfl))))) rfl
theorem tw_844 : Cond.methodLink "FewerLampsLaw" 55 ⟨"FewerLampsModel", "now", "(I)I"⟩ ∈ TB := tb_mem (List.mem_append_right _ (List.mem_append_right _ (List.mem_append_right _ (List.mem_append_right _ (List.mem_of_getElem? (i := 87) rfl))))) rfl
theorem tw_845 : Cond.instanceMethod ⟨"FewerLampsModel", "now", "(I)I"⟩ ∈ TB := tb_mem (List.mem_append_right _ (List.mem_append_right _ (List.mem_append_right _ (List.mem_append_right _ (List.mem_of_getElem? (i := 88) rfl))))) rfl
theorem tw_846 : Cond.selects "FewerLampsModel" ⟨"FewerLampsModel", "now", "(I)I"⟩ ⟨"FewerLampsModel", "now", "(I)I"⟩ ∈ TB := tb_mem (List.mem_append_right _ (List.mem_append_right _ (List.mem_append_right _ (List.mem_append_right _ (List.mem_of_getElem? (i := 89) rfl))))) rfl
theorem tw_847 : Cond.code ⟨"FewerLampsModel", "now", "(I)I"⟩ prog_10_method_28_code 2 (Option.some FieldType.int) ∈ TB := tb_mem (List.mem_append_right _ (List.mem_append_right _ (List.mem_append_right _ (List.mem_append_right _ (List.mem_of_getElem? (i := 90) rfl))))) rfl
theorem tw_848 : Cond.methodLink "FewerLampsLaw" 59 ⟨"FewerLampsModel", "after", "(I)I"⟩ ∈ TB := tb_mem (List.mem_append_right _ (List.mem_append_right _ (List.mem_append_right _ (List.mem_append_right _ (List.mem_of_getElem? (i := 91) rfl))))) rfl
theorem tw_849 : Cond.instanceMethod ⟨"FewerLampsModel", "after", "(I)I"⟩ ∈ TB := tb_mem (List.mem_append_right _ (List.mem_append_right _ (List.mem_append_right _ (List.mem_append_right _ (List.mem_of_getElem? (i := 92) rfl))))) rfl
theorem tw_850 : Cond.selects "FewerLampsModel" ⟨"FewerLampsModel", "after", "(I)I"⟩ ⟨"FewerLampsModel", "after", "(I)I"⟩ ∈ TB := tb_mem (List.mem_append_right _ (List.mem_append_right _ (List.mem_append_right _ (List.mem_append_right _ (List.mem_of_getElem? (i := 93) rfl))))) rfl
theorem tw_851 : Cond.code ⟨"FewerLampsModel", "after", "(I)I"⟩ prog_10_method_30_code 2 (Option.some FieldType.int) ∈ TB := tb_mem (List.mem_append_right _ (List.mem_append_right _ (List.mem_append_right _ (List.mem_append_right _ (List.mem_of_getElem? (i := 94) rfl))))) rfl
theorem tw_852 : Cond.constantLong "FewerLampsModel" 153 (600 : Int64) ∈ TB := tb_mem (List.mem_append_right _ (List.mem_append_right _ (List.mem_append_right _ (List.mem_append_right _ (List.mem_of_getElem? (i := 95) rfl))))) rfl
theorem tw_853 : Cond.methodLink "FewerLampsModel" 155 ⟨"FewerLampsModel", "goesOn", "(II)I"⟩ ∈ TB := tb_mem (List.mem_append_right _ (List.mem_append_right _ (List.mem_append_right _ (List.mem_append_right _ (List.mem_of_getElem? (i := 96) rfl))))) rfl
theorem tw_855 : Cond.instanceMethod ⟨"FewerLampsModel", "goesOn", "(II)I"⟩ ∈ TB := tb_mem (List.mem_append_right _ (List.mem_append_right _ (List.mem_append_right _ (List.mem_append_right _ (List.mem_of_getElem? (i := 98) rfl))))) rfl
theorem tw_856 : Cond.code ⟨"FewerLampsModel", "goesOn", "(II)I"⟩ prog_10_method_29_code 5 (Option.some FieldType.int) ∈ TB := tb_mem (List.mem_append_right _ (List.mem_append_right _ (List.mem_append_right _ (List.mem_append_right _ (List.mem_of_getElem? (i := 99) rfl))))) rfl
theorem tw_857 : Cond.methodLink "FewerLampsLaw" 63 ⟨"FewerLampsModel", "round", "(I)I"⟩ ∈ TB := tb_mem (List.mem_append_right _ (List.mem_append_right _ (List.mem_append_right _ (List.mem_append_right _ (List.mem_of_getElem? (i := 100) rfl))))) rfl
theorem tw_858 : Cond.instanceMethod ⟨"FewerLampsModel", "round", "(I)I"⟩ ∈ TB := tb_mem (List.mem_append_right _ (List.mem_append_right _ (List.mem_append_right _ (List.mem_append_right _ (List.mem_of_getElem? (i := 101) rfl))))) rfl
theorem tw_859 : Cond.selects "FewerLampsModel" ⟨"FewerLampsModel", "round", "(I)I"⟩ ⟨"FewerLampsModel", "round", "(I)I"⟩ ∈ TB := tb_mem (List.mem_append_right _ (List.mem_append_right _ (List.mem_append_right _ (List.mem_append_right _ (List.mem_of_getElem? (i := 102) rfl))))) rfl
theorem tw_860 : Cond.code ⟨"FewerLampsModel", "round", "(I)I"⟩ prog_10_method_32_code 2 (Option.some FieldType.int) ∈ TB := tb_mem (List.mem_append_right _ (List.mem_append_right _ (List.mem_append_right _ (List.mem_append_right _ (List.mem_of_getElem? (i := 103) rfl))))) rfl
theorem tw_861 : Cond.methodLink "FewerLampsModel" 164 ⟨"FewerLampsModel", "rounds", "(I)V"⟩ ∈ TB := tb_mem (List.mem_append_right _ (List.mem_append_right _ (List.mem_append_right _ (List.mem_append_right _ (List.mem_of_getElem? (i := 104) rfl))))) rfl
theorem tw_863 : Cond.instanceMethod ⟨"FewerLampsModel", "rounds", "(I)V"⟩ ∈ TB := tb_mem (List.mem_append_right _ (List.mem_append_right _ (List.mem_append_right _ (List.mem_append_right _ (List.mem_of_getElem? (i := 106) rfl))))) rfl
theorem tw_864 : Cond.code ⟨"FewerLampsModel", "rounds", "(I)V"⟩ prog_10_method_31_code 4 (Option.none : Option FieldType) ∈ TB := tb_mem (List.mem_append_right _ (List.mem_append_right _ (List.mem_append_right _ (List.mem_append_right _ (List.mem_of_getElem? (i := 107) rfl))))) rfl
theorem tw_865 : Cond.methodLink "FewerLampsLaw" 67 ⟨"FewerLampsModel", "again", "()I"⟩ ∈ TB := tb_mem (List.mem_append_right _ (List.mem_append_right _ (List.mem_append_right _ (List.mem_append_right _ (List.mem_of_getElem? (i := 108) rfl))))) rfl
theorem tw_866 : Cond.instanceMethod ⟨"FewerLampsModel", "again", "()I"⟩ ∈ TB := tb_mem (List.mem_append_right _ (List.mem_append_right _ (List.mem_append_right _ (List.mem_append_right _ (List.mem_of_getElem? (i := 109) rfl))))) rfl
theorem tw_867 : Cond.selects "FewerLampsModel" ⟨"FewerLampsModel", "again", "()I"⟩ ⟨"FewerLampsModel", "again", "()I"⟩ ∈ TB := tb_mem (List.mem_append_right _ (List.mem_append_right _ (List.mem_append_right _ (List.mem_append_right _ (List.mem_of_getElem? (i := 110) rfl))))) rfl
theorem tw_868 : Cond.code ⟨"FewerLampsModel", "again", "()I"⟩ prog_10_method_33_code 1 (Option.some FieldType.int) ∈ TB := tb_mem (List.mem_append_right _ (List.mem_append_right _ (List.mem_append_right _ (List.mem_append_right _ (List.mem_of_getElem? (i := 111) rfl))))) rfl
theorem tw_869 : Cond.methodLink "FewerLampsLaw" 71 ⟨"FewerLampsModel", "ahead", "(II)I"⟩ ∈ TB := tb_mem (List.mem_append_right _ (List.mem_append_right _ (List.mem_append_right _ (List.mem_append_right _ (List.mem_of_getElem? (i := 112) rfl))))) rfl
theorem tw_870 : Cond.instanceMethod ⟨"FewerLampsModel", "ahead", "(II)I"⟩ ∈ TB := tb_mem (List.mem_append_right _ (List.mem_append_right _ (List.mem_append_right _ (List.mem_append_right _ (List.mem_of_getElem? (i := 113) rfl))))) rfl
theorem tw_871 : Cond.selects "FewerLampsModel" ⟨"FewerLampsModel", "ahead", "(II)I"⟩ ⟨"FewerLampsModel", "ahead", "(II)I"⟩ ∈ TB := tb_mem (List.mem_append_right _ (List.mem_append_right _ (List.mem_append_right _ (List.mem_append_right _ (List.mem_of_getElem? (i := 114) rfl))))) rfl
theorem tw_872 : Cond.code ⟨"FewerLampsModel", "ahead", "(II)I"⟩ prog_10_method_34_code 7 (Option.some FieldType.int) ∈ TB := tb_mem (List.mem_append_right _ (List.mem_append_right _ (List.mem_append_right _ (List.mem_append_right _ (List.mem_of_getElem? (i := 115) rfl))))) rfl
theorem tw_873 : Cond.methodLink "FewerLampsModel" 167 ⟨"FewerLampsModel", "isStand", "(I)Z"⟩ ∈ TB := tb_mem (List.mem_append_right _ (List.mem_append_right _ (List.mem_append_right _ (List.mem_append_right _ (List.mem_of_getElem? (i := 116) rfl))))) rfl
theorem tw_875 : Cond.instanceMethod ⟨"FewerLampsModel", "isStand", "(I)Z"⟩ ∈ TB := tb_mem (List.mem_append_right _ (List.mem_append_right _ (List.mem_append_right _ (List.mem_append_right _ (List.mem_of_getElem? (i := 118) rfl))))) rfl
theorem tw_876 : Cond.code ⟨"FewerLampsModel", "isStand", "(I)Z"⟩ prog_10_method_16_code 2 (Option.some FieldType.boolean) ∈ TB := tb_mem (List.mem_append_right _ (List.mem_append_right _ (List.mem_append_right _ (List.mem_append_right _ (List.mem_of_getElem? (i := 119) rfl))))) rfl
theorem tw_877 : Cond.methodLink "FewerLampsLaw" 75 ⟨"FewerLampsModel", "eden", "()I"⟩ ∈ TB := tb_mem (List.mem_append_right _ (List.mem_append_right _ (List.mem_append_right _ (List.mem_append_right _ (List.mem_of_getElem? (i := 120) rfl))))) rfl
theorem tw_878 : Cond.instanceMethod ⟨"FewerLampsModel", "eden", "()I"⟩ ∈ TB := tb_mem (List.mem_append_right _ (List.mem_append_right _ (List.mem_append_right _ (List.mem_append_right _ (List.mem_of_getElem? (i := 121) rfl))))) rfl
theorem tw_879 : Cond.selects "FewerLampsModel" ⟨"FewerLampsModel", "eden", "()I"⟩ ⟨"FewerLampsModel", "eden", "()I"⟩ ∈ TB := tb_mem (List.mem_append_right _ (List.mem_append_right _ (List.mem_append_right _ (List.mem_append_right _ (List.mem_of_getElem? (i := 122) rfl))))) rfl
theorem tw_880 : Cond.code ⟨"FewerLampsModel", "eden", "()I"⟩ prog_10_method_35_code 3 (Option.some FieldType.int) ∈ TB := tb_mem (List.mem_append_right _ (List.mem_append_right _ (List.mem_append_right _ (List.mem_append_right _ (List.mem_of_getElem? (i := 123) rfl))))) rfl
theorem tw_881 : Cond.methodLink "FewerLampsLaw" 80 ⟨"FewerLampsModel", "lit", "(III)I"⟩ ∈ TB := tb_mem (List.mem_append_right _ (List.mem_append_right _ (List.mem_append_right _ (List.mem_append_right _ (List.mem_of_getElem? (i := 124) rfl))))) rfl
theorem tw_882 : Cond.instanceMethod ⟨"FewerLampsModel", "lit", "(III)I"⟩ ∈ TB := tb_mem (List.mem_append_right _ (List.mem_append_right _ (List.mem_append_right _ (List.mem_append_right _ (List.mem_of_getElem? (i := 125) rfl))))) rfl
theorem tw_883 : Cond.selects "FewerLampsModel" ⟨"FewerLampsModel", "lit", "(III)I"⟩ ⟨"FewerLampsModel", "lit", "(III)I"⟩ ∈ TB := tb_mem (List.mem_append_right _ (List.mem_append_right _ (List.mem_append_right _ (List.mem_append_right _ (List.mem_of_getElem? (i := 126) rfl))))) rfl
theorem tw_884 : Cond.code ⟨"FewerLampsModel", "lit", "(III)I"⟩ prog_10_method_37_code 9 (Option.some FieldType.int) ∈ TB := tb_mem (List.mem_append_right _ (List.mem_append_right _ (List.mem_append_right _ (List.mem_append_right _ (List.mem_of_getElem? (i := 127) rfl))))) rfl
theorem tw_885 : Cond.constantLong "FewerLampsModel" 170 (60 : Int64) ∈ TB := tb_mem (List.mem_append_right _ (List.mem_append_right _ (List.mem_append_right _ (List.mem_append_right _ (List.mem_of_getElem? (i := 128) rfl))))) rfl
theorem tw_886 : Cond.methodLink "FewerLampsModel" 172 ⟨"FewerLampsModel", "stays", "(III)Z"⟩ ∈ TB := tb_mem (List.mem_append_right _ (List.mem_append_right _ (List.mem_append_right _ (List.mem_append_right _ (List.mem_of_getElem? (i := 129) rfl))))) rfl
theorem tw_888 : Cond.instanceMethod ⟨"FewerLampsModel", "stays", "(III)Z"⟩ ∈ TB := tb_mem (List.mem_append_right _ (List.mem_append_right _ (List.mem_append_right _ (List.mem_append_right _ (List.mem_of_getElem? (i := 131) rfl))))) rfl
theorem tw_889 : Cond.code ⟨"FewerLampsModel", "stays", "(III)Z"⟩ prog_10_method_36_code 7 (Option.some FieldType.boolean) ∈ TB := tb_mem (List.mem_append_right _ (List.mem_append_right _ (List.mem_append_right _ (List.mem_append_right _ (List.mem_of_getElem? (i := 132) rfl))))) rfl
theorem tw_890 : Cond.methodLink "FewerLampsLaw" 84 ⟨"FewerLampsModel", "who", "(III)I"⟩ ∈ TB := tb_mem (List.mem_append_right _ (List.mem_append_right _ (List.mem_append_right _ (List.mem_append_right _ (List.mem_of_getElem? (i := 133) rfl))))) rfl
theorem tw_891 : Cond.instanceMethod ⟨"FewerLampsModel", "who", "(III)I"⟩ ∈ TB := tb_mem (List.mem_append_right _ (List.mem_append_right _ (List.mem_append_right _ (List.mem_append_right _ (List.mem_of_getElem? (i := 134) rfl))))) rfl
theorem tw_892 : Cond.selects "FewerLampsModel" ⟨"FewerLampsModel", "who", "(III)I"⟩ ⟨"FewerLampsModel", "who", "(III)I"⟩ ∈ TB := tb_mem (List.mem_append_right _ (List.mem_append_right _ (List.mem_append_right _ (List.mem_append_right _ (List.mem_of_getElem? (i := 135) rfl))))) rfl
theorem tw_893 : Cond.code ⟨"FewerLampsModel", "who", "(III)I"⟩ prog_10_method_38_code 8 (Option.some FieldType.int) ∈ TB := tb_mem (List.mem_append_right _ (List.mem_append_right _ (List.mem_append_right _ (List.mem_append_right _ (List.mem_of_getElem? (i := 136) rfl))))) rfl
theorem tw_894 : Cond.methodLink "FewerLampsLaw" 88 ⟨"FewerLampsModel", "thief", "(II)I"⟩ ∈ TB := tb_mem (List.mem_append_right _ (List.mem_append_right _ (List.mem_append_right _ (List.mem_append_right _ (List.mem_of_getElem? (i := 137) rfl))))) rfl
theorem tw_895 : Cond.instanceMethod ⟨"FewerLampsModel", "thief", "(II)I"⟩ ∈ TB := tb_mem (List.mem_append_right _ (List.mem_append_right _ (List.mem_append_right _ (List.mem_append_right _ (List.mem_of_getElem? (i := 138) rfl))))) rfl
theorem tw_896 : Cond.selects "FewerLampsModel" ⟨"FewerLampsModel", "thief", "(II)I"⟩ ⟨"FewerLampsModel", "thief", "(II)I"⟩ ∈ TB := tb_mem (List.mem_append_right _ (List.mem_append_right _ (List.mem_append_right _ (List.mem_append_right _ (List.mem_of_getElem? (i := 139) rfl))))) rfl
theorem tw_897 : Cond.code ⟨"FewerLampsModel", "thief", "(II)I"⟩ prog_10_method_39_code 8 (Option.some FieldType.int) ∈ TB := tb_mem (List.mem_append_right _ (List.mem_append_right _ (List.mem_append_right _ (List.mem_append_right _ (List.mem_of_getElem? (i := 140) rfl))))) rfl
theorem tw_898 : Cond.methodLink "FewerLampsLaw" 92 ⟨"FewerLampsModel", "still", "(I)I"⟩ ∈ TB := tb_mem (List.mem_append_right _ (List.mem_append_right _ (List.mem_append_right _ (List.mem_append_right _ (List.mem_of_getElem? (i := 141) rfl))))) rfl
theorem tw_899 : Cond.instanceMethod ⟨"FewerLampsModel", "still", "(I)I"⟩ ∈ TB := tb_mem (List.mem_append_right _ (List.mem_append_right _ (List.mem_append_right _ (List.mem_append_right _ (List.mem_of_getElem? (i := 142) rfl))))) rfl
theorem tw_900 : Cond.selects "FewerLampsModel" ⟨"FewerLampsModel", "still", "(I)I"⟩ ⟨"FewerLampsModel", "still", "(I)I"⟩ ∈ TB := tb_mem (List.mem_append_right _ (List.mem_append_right _ (List.mem_append_right _ (List.mem_append_right _ (List.mem_of_getElem? (i := 143) rfl))))) rfl
theorem tw_901 : Cond.code ⟨"FewerLampsModel", "still", "(I)I"⟩ prog_10_method_40_code 4 (Option.some FieldType.int) ∈ TB := tb_mem (List.mem_append_right _ (List.mem_append_right _ (List.mem_append_right _ (List.mem_append_right _ (List.mem_of_getElem? (i := 144) rfl))))) rfl
theorem tw_902 : Cond.methodLink "FewerLampsLaw" 96 ⟨"FewerLampsModel", "mist", "(I)I"⟩ ∈ TB := tb_mem (List.mem_append_right _ (List.mem_append_right _ (List.mem_append_right _ (List.mem_append_right _ (List.mem_of_getElem? (i := 145) rfl))))) rfl
theorem tw_903 : Cond.instanceMethod ⟨"FewerLampsModel", "mist", "(I)I"⟩ ∈ TB := tb_mem (List.mem_append_right _ (List.mem_append_right _ (List.mem_append_right _ (List.mem_append_right _ (List.mem_of_getElem? (i := 146) rfl))))) rfl
theorem tw_904 : Cond.selects "FewerLampsModel" ⟨"FewerLampsModel", "mist", "(I)I"⟩ ⟨"FewerLampsModel", "mist", "(I)I"⟩ ∈ TB := tb_mem (List.mem_append_right _ (List.mem_append_right _ (List.mem_append_right _ (List.mem_append_right _ (List.mem_of_getElem? (i := 147) rfl))))) rfl
theorem tw_905 : Cond.code ⟨"FewerLampsModel", "mist", "(I)I"⟩ prog_10_method_41_code 4 (Option.some FieldType.int) ∈ TB := tb_mem (List.mem_append_right _ (List.mem_append_right _ (List.mem_append_right _ (List.mem_append_right _ (List.mem_of_getElem? (i := 148) rfl))))) rfl
theorem tw_906 : Cond.methodLink "FewerLampsLaw" 100 ⟨"FewerLampsModel", "flickers", "(II)I"⟩ ∈ TB := tb_mem (List.mem_append_right _ (List.mem_append_right _ (List.mem_append_right _ (List.mem_append_right _ (List.mem_of_getElem? (i := 149) rfl))))) rfl
theorem tw_907 : Cond.instanceMethod ⟨"FewerLampsModel", "flickers", "(II)I"⟩ ∈ TB := tb_mem (List.mem_append_right _ (List.mem_append_right _ (List.mem_append_right _ (List.mem_append_right _ (List.mem_of_getElem? (i := 150) rfl))))) rfl
theorem tw_908 : Cond.selects "FewerLampsModel" ⟨"FewerLampsModel", "flickers", "(II)I"⟩ ⟨"FewerLampsModel", "flickers", "(II)I"⟩ ∈ TB := tb_mem (List.mem_append_right _ (List.mem_append_right _ (List.mem_append_right _ (List.mem_append_right _ (List.mem_of_getElem? (i := 151) rfl))))) rfl
theorem tw_909 : Cond.code ⟨"FewerLampsModel", "flickers", "(II)I"⟩ prog_10_method_43_code 7 (Option.some FieldType.int) ∈ TB := tb_mem (List.mem_append_right _ (List.mem_append_right _ (List.mem_append_right _ (List.mem_append_right _ (List.mem_of_getElem? (i := 152) rfl))))) rfl
theorem tw_910 : Cond.methodLink "FewerLampsModel" 176 ⟨"FewerLampsModel", "changes", "(II)I"⟩ ∈ TB := tb_mem (List.mem_append_right _ (List.mem_append_right _ (List.mem_append_right _ (List.mem_append_right _ (List.mem_of_getElem? (i := 153) rfl))))) rfl
theorem tw_912 : Cond.instanceMethod ⟨"FewerLampsModel", "changes", "(II)I"⟩ ∈ TB := tb_mem (List.mem_append_right _ (List.mem_append_right _ (List.mem_append_right _ (List.mem_append_right _ (List.mem_of_getElem? (i := 155) rfl))))) rfl
theorem tw_913 : Cond.code ⟨"FewerLampsModel", "changes", "(II)I"⟩ prog_10_method_42_code 7 (Option.some FieldType.int) ∈ TB := tb_mem (List.mem_append_right _ (List.mem_append_right _ (List.mem_append_right _ (List.mem_append_right _ (List.mem_of_getElem? (i := 156) rfl))))) rfl
theorem tw_914 : Cond.methodLink "FewerLampsLaw" 104 ⟨"FewerLampsModel", "mark", "(II)I"⟩ ∈ TB := tb_mem (List.mem_append_right _ (List.mem_append_right _ (List.mem_append_right _ (List.mem_append_right _ (List.mem_of_getElem? (i := 157) rfl))))) rfl
theorem tw_915 : Cond.instanceMethod ⟨"FewerLampsModel", "mark", "(II)I"⟩ ∈ TB := tb_mem (List.mem_append_right _ (List.mem_append_right _ (List.mem_append_right _ (List.mem_append_right _ (List.mem_of_getElem? (i := 158) rfl))))) rfl
theorem tw_916 : Cond.selects "FewerLampsModel" ⟨"FewerLampsModel", "mark", "(II)I"⟩ ⟨"FewerLampsModel", "mark", "(II)I"⟩ ∈ TB := tb_mem (List.mem_append_right _ (List.mem_append_right _ (List.mem_append_right _ (List.mem_append_right _ (List.mem_of_getElem? (i := 159) rfl))))) rfl
theorem tw_917 : Cond.code ⟨"FewerLampsModel", "mark", "(II)I"⟩ prog_10_method_44_code 5 (Option.some FieldType.int) ∈ TB := tb_mem (List.mem_append_right _ (List.mem_append_right _ (List.mem_append_right _ (List.mem_append_right _ (List.mem_of_getElem? (i := 160) rfl))))) rfl
theorem tw_918 : Cond.constantLong "FewerLampsModel" 179 (5 : Int64) ∈ TB := tb_mem (List.mem_append_right _ (List.mem_append_right _ (List.mem_append_right _ (List.mem_append_right _ (List.mem_of_getElem? (i := 161) rfl))))) rfl
theorem tw_919 : Cond.constant "FewerLampsModel" 181 (-1000000 : Int32) ∈ TB := tb_mem (List.mem_append_right _ (List.mem_append_right _ (List.mem_append_right _ (List.mem_append_right _ (List.mem_of_getElem? (i := 162) rfl))))) rfl
theorem tw_920 : Cond.constantLong "FewerLampsModel" 186 (11 : Int64) ∈ TB := tb_mem (List.mem_append_right _ (List.mem_append_right _ (List.mem_append_right _ (List.mem_append_right _ (List.mem_of_getElem? (i := 163) rfl))))) rfl
theorem tw_921 : Cond.constantLong "FewerLampsModel" 188 (101 : Int64) ∈ TB := tb_mem (List.mem_append_right _ (List.mem_append_right _ (List.mem_append_right _ (List.mem_append_right _ (List.mem_of_getElem? (i := 164) rfl))))) rfl
theorem tw_922 : Cond.constantLong "FewerLampsModel" 190 (1011 : Int64) ∈ TB := tb_mem (List.mem_append_right _ (List.mem_append_right _ (List.mem_append_right _ (List.mem_append_right _ (List.mem_of_getElem? (i := 165) rfl))))) rfl
theorem tw_923 : Cond.constantLong "FewerLampsModel" 192 (10101 : Int64) ∈ TB := tb_mem (List.mem_append_right _ (List.mem_append_right _ (List.mem_append_right _ (List.mem_append_right _ (List.mem_of_getElem? (i := 166) rfl))))) rfl
theorem tw_924 : Cond.constantLong "FewerLampsModel" 194 (100001 : Int64) ∈ TB := tb_mem (List.mem_append_right _ (List.mem_append_right _ (List.mem_append_right _ (List.mem_append_right _ (List.mem_of_getElem? (i := 167) rfl))))) rfl
theorem tw_925 : Cond.methodLink "FewerLampsLaw" 121 ⟨"FewerLampsModel", "trace", "()J"⟩ ∈ TB := tb_mem (List.mem_append_right _ (List.mem_append_right _ (List.mem_append_right _ (List.mem_append_right _ (List.mem_of_getElem? (i := 168) rfl))))) rfl
theorem tw_926 : Cond.instanceMethod ⟨"FewerLampsModel", "trace", "()J"⟩ ∈ TB := tb_mem (List.mem_append_right _ (List.mem_append_right _ (List.mem_append_right _ (List.mem_append_right _ (List.mem_of_getElem? (i := 169) rfl))))) rfl
theorem tw_927 : Cond.selects "FewerLampsModel" ⟨"FewerLampsModel", "trace", "()J"⟩ ⟨"FewerLampsModel", "trace", "()J"⟩ ∈ TB := tb_mem (List.mem_append_right _ (List.mem_append_right _ (List.mem_append_right _ (List.mem_append_right _ (List.mem_of_getElem? (i := 170) rfl))))) rfl
theorem tw_928 : Cond.code ⟨"FewerLampsModel", "trace", "()J"⟩ prog_10_method_45_code 1 (Option.some FieldType.long) ∈ TB := tb_mem (List.mem_append_right _ (List.mem_append_right _ (List.mem_append_right _ (List.mem_append_right _ (List.mem_of_getElem? (i := 171) rfl))))) rfl
theorem tw_929 : Cond.methodLink "FewerLampsLaw" 108 ⟨"FewerLampsModel", "keep", "(I)I"⟩ ∈ TB := tb_mem (List.mem_append_right _ (List.mem_append_right _ (List.mem_append_right _ (List.mem_append_right _ (List.mem_of_getElem? (i := 172) rfl))))) rfl
theorem tw_930 : Cond.instanceMethod ⟨"FewerLampsModel", "keep", "(I)I"⟩ ∈ TB := tb_mem (List.mem_append_right _ (List.mem_append_right _ (List.mem_append_right _ (List.mem_append_right _ (List.mem_of_getElem? (i := 173) rfl))))) rfl
theorem tw_931 : Cond.selects "FewerLampsModel" ⟨"FewerLampsModel", "keep", "(I)I"⟩ ⟨"FewerLampsModel", "keep", "(I)I"⟩ ∈ TB := tb_mem (List.mem_append_right _ (List.mem_append_right _ (List.mem_append_right _ (List.mem_append_right _ (List.mem_of_getElem? (i := 174) rfl))))) rfl
theorem tw_932 : Cond.code ⟨"FewerLampsModel", "keep", "(I)I"⟩ prog_10_method_46_code 4 (Option.some FieldType.int) ∈ TB := tb_mem (List.mem_append_right _ (List.mem_append_right _ (List.mem_append_right _ (List.mem_append_right _ (List.mem_of_getElem? (i := 175) rfl))))) rfl
theorem tw_933 : Cond.methodLink "FewerLampsLaw" 112 ⟨"FewerLampsModel", "back", "(I)I"⟩ ∈ TB := tb_mem (List.mem_append_right _ (List.mem_append_right _ (List.mem_append_right _ (List.mem_append_right _ (List.mem_of_getElem? (i := 176) rfl))))) rfl
theorem tw_934 : Cond.instanceMethod ⟨"FewerLampsModel", "back", "(I)I"⟩ ∈ TB := tb_mem (List.mem_append_right _ (List.mem_append_right _ (List.mem_append_right _ (List.mem_append_right _ (List.mem_of_getElem? (i := 177) rfl))))) rfl
theorem tw_935 : Cond.selects "FewerLampsModel" ⟨"FewerLampsModel", "back", "(I)I"⟩ ⟨"FewerLampsModel", "back", "(I)I"⟩ ∈ TB := tb_mem (List.mem_append_right _ (List.mem_append_right _ (List.mem_append_right _ (List.mem_append_right _ (List.mem_of_getElem? (i := 178) rfl))))) rfl
theorem tw_936 : Cond.code ⟨"FewerLampsModel", "back", "(I)I"⟩ prog_10_method_47_code 4 (Option.some FieldType.int) ∈ TB := tb_mem (List.mem_append_right _ (List.mem_append_right _ (List.mem_append_right _ (List.mem_append_right _ (List.mem_of_getElem? (i := 179) rfl))))) rfl
theorem tw_937 : Cond.methodLink "FewerLampsLaw" 116 ⟨"FewerLampsModel", "count", "(I)I"⟩ ∈ TB := tb_mem (List.mem_append_right _ (List.mem_append_right _ (List.mem_append_right _ (List.mem_append_right _ (List.mem_of_getElem? (i := 180) rfl))))) rfl
theorem tw_938 : Cond.instanceMethod ⟨"FewerLampsModel", "count", "(I)I"⟩ ∈ TB := tb_mem (List.mem_append_right _ (List.mem_append_right _ (List.mem_append_right _ (List.mem_append_right _ (List.mem_of_getElem? (i := 181) rfl))))) rfl
theorem tw_939 : Cond.selects "FewerLampsModel" ⟨"FewerLampsModel", "count", "(I)I"⟩ ⟨"FewerLampsModel", "count", "(I)I"⟩ ∈ TB := tb_mem (List.mem_append_right _ (List.mem_append_right _ (List.mem_append_right _ (List.mem_append_right _ (List.mem_of_getElem? (i := 182) rfl))))) rfl
theorem tw_940 : Cond.code ⟨"FewerLampsModel", "count", "(I)I"⟩ prog_10_method_48_code 2 (Option.some FieldType.int) ∈ TB := tb_mem (List.mem_append_right _ (List.mem_append_right _ (List.mem_append_right _ (List.mem_append_right _ (List.mem_of_getElem? (i := 183) rfl))))) rfl
theorem inX0 : ∀ w ∈ wsX00, w ∈ TB := show ∀ w ∈ u_ws RX0 TX0 8, w ∈ TB from List.forall_mem_cons.mpr ⟨tw_200, List.forall_mem_cons.mpr ⟨tw_202, List.forall_mem_cons.mpr ⟨tw_204, List.forall_mem_cons.mpr ⟨tw_206, List.forall_mem_cons.mpr ⟨tw_208, List.forall_mem_cons.mpr ⟨tw_210, List.forall_mem_cons.mpr ⟨tw_212, List.forall_mem_cons.mpr ⟨tw_214, fun _ h => absurd h List.not_mem_nil⟩⟩⟩⟩⟩⟩⟩⟩
theorem inX1 : ∀ w ∈ wsX10, w ∈ TB := show ∀ w ∈ u_ws RX1 TX1 6, w ∈ TB from List.forall_mem_cons.mpr ⟨tw_233, List.forall_mem_cons.mpr ⟨tw_235, List.forall_mem_cons.mpr ⟨tw_237, List.forall_mem_cons.mpr ⟨tw_239, List.forall_mem_cons.mpr ⟨tw_241, List.forall_mem_cons.mpr ⟨tw_243, fun _ h => absurd h List.not_mem_nil⟩⟩⟩⟩⟩⟩
theorem inX2 : ∀ w ∈ wsX20, w ∈ TB := show ∀ w ∈ u_ws RX2 TX2 3, w ∈ TB from List.forall_mem_cons.mpr ⟨tw_256, List.forall_mem_cons.mpr ⟨tw_258, List.forall_mem_cons.mpr ⟨tw_260, fun _ h => absurd h List.not_mem_nil⟩⟩⟩
theorem inX3 : ∀ w ∈ wsX30, w ∈ TB := show ∀ w ∈ u_ws RX3 TX3 6, w ∈ TB from List.forall_mem_cons.mpr ⟨tw_169, List.forall_mem_cons.mpr ⟨tw_171, List.forall_mem_cons.mpr ⟨tw_173, List.forall_mem_cons.mpr ⟨tw_175, List.forall_mem_cons.mpr ⟨tw_177, List.forall_mem_cons.mpr ⟨tw_179, fun _ h => absurd h List.not_mem_nil⟩⟩⟩⟩⟩⟩
theorem inX4 : ∀ w ∈ wsX40, w ∈ TB := show ∀ w ∈ u_ws RX4 TX4 6, w ∈ TB from List.forall_mem_cons.mpr ⟨tw_136, List.forall_mem_cons.mpr ⟨tw_138, List.forall_mem_cons.mpr ⟨tw_140, List.forall_mem_cons.mpr ⟨tw_142, List.forall_mem_cons.mpr ⟨tw_144, List.forall_mem_cons.mpr ⟨tw_146, fun _ h => absurd h List.not_mem_nil⟩⟩⟩⟩⟩⟩
theorem inX5 : ∀ w ∈ wsX50, w ∈ TB := show ∀ w ∈ u_ws RX5 TX5 2, w ∈ TB from List.forall_mem_cons.mpr ⟨tw_69, List.forall_mem_cons.mpr ⟨tw_71, fun _ h => absurd h List.not_mem_nil⟩⟩
theorem inX6 : ∀ w ∈ wsX60, w ∈ TB := show ∀ w ∈ u_ws RX6 TX6 7, w ∈ TB from List.forall_mem_cons.mpr ⟨tw_113, List.forall_mem_cons.mpr ⟨tw_115, List.forall_mem_cons.mpr ⟨tw_117, List.forall_mem_cons.mpr ⟨tw_119, List.forall_mem_cons.mpr ⟨tw_121, List.forall_mem_cons.mpr ⟨tw_123, List.forall_mem_cons.mpr ⟨tw_125, fun _ h => absurd h List.not_mem_nil⟩⟩⟩⟩⟩⟩⟩
theorem inX7 : ∀ w ∈ wsX70, w ∈ TB := show ∀ w ∈ u_ws RX7 TX7 10, w ∈ TB from List.forall_mem_cons.mpr ⟨tw_273, List.forall_mem_cons.mpr ⟨tw_275, List.forall_mem_cons.mpr ⟨tw_277, List.forall_mem_cons.mpr ⟨tw_279, List.forall_mem_cons.mpr ⟨tw_281, List.forall_mem_cons.mpr ⟨tw_283, List.forall_mem_cons.mpr ⟨tw_285, List.forall_mem_cons.mpr ⟨tw_287, List.forall_mem_cons.mpr ⟨tw_289, List.forall_mem_cons.mpr ⟨tw_291, fun _ h => absurd h List.not_mem_nil⟩⟩⟩⟩⟩⟩⟩⟩⟩⟩
theorem inX8 : ∀ w ∈ wsX80, w ∈ TB := show ∀ w ∈ u_ws RX8 TX8 29, w ∈ TB from List.forall_mem_cons.mpr ⟨tw_687, List.forall_mem_cons.mpr ⟨tw_689, List.forall_mem_cons.mpr ⟨tw_691, List.forall_mem_cons.mpr ⟨tw_693, List.forall_mem_cons.mpr ⟨tw_695, List.forall_mem_cons.mpr ⟨tw_697, List.forall_mem_cons.mpr ⟨tw_699, List.forall_mem_cons.mpr ⟨tw_701, List.forall_mem_cons.mpr ⟨tw_703, List.forall_mem_cons.mpr ⟨tw_705, List.forall_mem_cons.mpr ⟨tw_707, List.forall_mem_cons.mpr ⟨tw_709, List.forall_mem_cons.mpr ⟨tw_711, List.forall_mem_cons.mpr ⟨tw_713, List.forall_mem_cons.mpr ⟨tw_715, List.forall_mem_cons.mpr ⟨tw_717, List.forall_mem_cons.mpr ⟨tw_719, List.forall_mem_cons.mpr ⟨tw_721, List.forall_mem_cons.mpr ⟨tw_723, List.forall_mem_cons.mpr ⟨tw_725, List.forall_mem_cons.mpr ⟨tw_727, List.forall_mem_cons.mpr ⟨tw_729, List.forall_mem_cons.mpr ⟨tw_731, List.forall_mem_cons.mpr ⟨tw_733, List.forall_mem_cons.mpr ⟨tw_735, List.forall_mem_cons.mpr ⟨tw_737, List.forall_mem_cons.mpr ⟨tw_739, List.forall_mem_cons.mpr ⟨tw_741, List.forall_mem_cons.mpr ⟨tw_743, fun _ h => absurd h List.not_mem_nil⟩⟩⟩⟩⟩⟩⟩⟩⟩⟩⟩⟩⟩⟩⟩⟩⟩⟩⟩⟩⟩⟩⟩⟩⟩⟩⟩⟩⟩
