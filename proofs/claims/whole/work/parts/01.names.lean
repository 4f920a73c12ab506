-- ===== PART A: goes FIRST, ahead of the names: the tables' words, and 'selects' of the private methods out of them =====
/-- a private method of a class that the tables say can be made, by its rows of tables_1 -/
def lw_okq (q : MethodName × Nat) : Prop := (q.1.cls ≠ "java/lang/invoke/MethodHandle" ∧ q.1.cls ≠ "java/lang/invoke/VarHandle") ∧ Cond.instantiable q.1.cls q.2 ∈ tables_1 ∧ Cond.privateMethod q.1 ∈ tables_1 ∧ Cond.instanceMethod q.1 ∈ tables_1
theorem lw_p0 : lw_okq (⟨"Embayed", "refuse", "(I)I"⟩, 10) := ⟨⟨by decide +kernel, by decide +kernel⟩, List.mem_of_getElem? (i := 12) (by decide +kernel), List.mem_of_getElem? (i := 266) (by decide +kernel), List.mem_of_getElem? (i := 267) (by decide +kernel)⟩
theorem lw_p1 : lw_okq (⟨"Embayed$Ship", "paceIn", "(LEmbayed$World;)I"⟩, 17) := ⟨⟨by decide +kernel, by decide +kernel⟩, List.mem_of_getElem? (i := 124) (by decide +kernel), List.mem_of_getElem? (i := 419) (by decide +kernel), List.mem_of_getElem? (i := 420) (by decide +kernel)⟩
theorem lw_p2 : lw_okq (⟨"Embayed$Ship", "strainAtAnchor", "(LEmbayed$World;)V"⟩, 17) := ⟨⟨by decide +kernel, by decide +kernel⟩, List.mem_of_getElem? (i := 124) (by decide +kernel), List.mem_of_getElem? (i := 429) (by decide +kernel), List.mem_of_getElem? (i := 430) (by decide +kernel)⟩
theorem lw_p3 : lw_okq (⟨"Embayed$Ship", "goInto", "(LEmbayed$World;I)V"⟩, 17) := ⟨⟨by decide +kernel, by decide +kernel⟩, List.mem_of_getElem? (i := 124) (by decide +kernel), List.mem_of_getElem? (i := 442) (by decide +kernel), List.mem_of_getElem? (i := 443) (by decide +kernel)⟩
theorem lw_p4 : lw_okq (⟨"Embayed$Ship", "endAs", "(IIZ)V"⟩, 17) := ⟨⟨by decide +kernel, by decide +kernel⟩, List.mem_of_getElem? (i := 124) (by decide +kernel), List.mem_of_getElem? (i := 460) (by decide +kernel), List.mem_of_getElem? (i := 461) (by decide +kernel)⟩
theorem lw_p5 : lw_okq (⟨"Embayed$Ship", "goOn", "(LEmbayed$World;I)V"⟩, 17) := ⟨⟨by decide +kernel, by decide +kernel⟩, List.mem_of_getElem? (i := 124) (by decide +kernel), List.mem_of_getElem? (i := 464) (by decide +kernel), List.mem_of_getElem? (i := 465) (by decide +kernel)⟩
theorem lw_p6 : lw_okq (⟨"Embayed$Ship", "leak", "(LEmbayed$World;)V"⟩, 17) := ⟨⟨by decide +kernel, by decide +kernel⟩, List.mem_of_getElem? (i := 124) (by decide +kernel), List.mem_of_getElem? (i := 468) (by decide +kernel), List.mem_of_getElem? (i := 469) (by decide +kernel)⟩
theorem lw_p7 : lw_okq (⟨"Embayed$Ship", "settleKind", "(LEmbayed$World;I)V"⟩, 17) := ⟨⟨by decide +kernel, by decide +kernel⟩, List.mem_of_getElem? (i := 124) (by decide +kernel), List.mem_of_getElem? (i := 475) (by decide +kernel), List.mem_of_getElem? (i := 476) (by decide +kernel)⟩
theorem lw_p8 : lw_okq (⟨"Embayed$Ship", "passesWind", "(II)Z"⟩, 17) := ⟨⟨by decide +kernel, by decide +kernel⟩, List.mem_of_getElem? (i := 124) (by decide +kernel), List.mem_of_getElem? (i := 495) (by decide +kernel), List.mem_of_getElem? (i := 496) (by decide +kernel)⟩
theorem lw_p9 : lw_okq (⟨"Embayed$Escape", "markRound", "(LEmbayed$World;II)Z"⟩, 1) := ⟨⟨by decide +kernel, by decide +kernel⟩, List.mem_of_getElem? (i := 207) (by decide +kernel), List.mem_of_getElem? (i := 549) (by decide +kernel), List.mem_of_getElem? (i := 550) (by decide +kernel)⟩
theorem lw_p10 : lw_okq (⟨"Embayed$Escape", "isOneMoveBefore", "(LEmbayed$World;III)Z"⟩, 1) := ⟨⟨by decide +kernel, by decide +kernel⟩, List.mem_of_getElem? (i := 207) (by decide +kernel), List.mem_of_getElem? (i := 553) (by decide +kernel), List.mem_of_getElem? (i := 554) (by decide +kernel)⟩
theorem lw_p11 : lw_okq (⟨"Embayed$Escape", "leftBehindMove", "(LEmbayed$World;IIII)I"⟩, 1) := ⟨⟨by decide +kernel, by decide +kernel⟩, List.mem_of_getElem? (i := 207) (by decide +kernel), List.mem_of_getElem? (i := 559) (by decide +kernel), List.mem_of_getElem? (i := 560) (by decide +kernel)⟩
theorem lw_p12 : lw_okq (⟨"Embayed", "bestRowOfActs", "(I)I"⟩, 10) := ⟨⟨by decide +kernel, by decide +kernel⟩, List.mem_of_getElem? (i := 12) (by decide +kernel), List.mem_of_getElem? (i := 615) (by decide +kernel), List.mem_of_getElem? (i := 616) (by decide +kernel)⟩
theorem lw_p13 : lw_okq (⟨"Embayed", "livesByActs", "(II)I"⟩, 10) := ⟨⟨by decide +kernel, by decide +kernel⟩, List.mem_of_getElem? (i := 12) (by decide +kernel), List.mem_of_getElem? (i := 621) (by decide +kernel), List.mem_of_getElem? (i := 622) (by decide +kernel)⟩
theorem lw_p14 : lw_okq (⟨"Embayed$Chart", "seaSeenBy", "(II)I"⟩, 3) := ⟨⟨by decide +kernel, by decide +kernel⟩, List.mem_of_getElem? (i := 42) (by decide +kernel), List.mem_of_getElem? (i := 653) (by decide +kernel), List.mem_of_getElem? (i := 654) (by decide +kernel)⟩
theorem lw_p15 : lw_okq (⟨"EmbayedModel", "no", "(I)I"⟩, 37) := ⟨⟨by decide +kernel, by decide +kernel⟩, List.mem_of_getElem? (i := 722) (by decide +kernel), List.mem_of_getElem? (i := 844) (by decide +kernel), List.mem_of_getElem? (i := 845) (by decide +kernel)⟩
def lw_privs_1 : List (MethodName × Nat) := [(⟨"Embayed", "refuse", "(I)I"⟩, 10), (⟨"Embayed$Ship", "paceIn", "(LEmbayed$World;)I"⟩, 17), (⟨"Embayed$Ship", "strainAtAnchor", "(LEmbayed$World;)V"⟩, 17), (⟨"Embayed$Ship", "goInto", "(LEmbayed$World;I)V"⟩, 17), (⟨"Embayed$Ship", "endAs", "(IIZ)V"⟩, 17), (⟨"Embayed$Ship", "goOn", "(LEmbayed$World;I)V"⟩, 17), (⟨"Embayed$Ship", "leak", "(LEmbayed$World;)V"⟩, 17), (⟨"Embayed$Ship", "settleKind", "(LEmbayed$World;I)V"⟩, 17), (⟨"Embayed$Ship", "passesWind", "(II)Z"⟩, 17), (⟨"Embayed$Escape", "markRound", "(LEmbayed$World;II)Z"⟩, 1), (⟨"Embayed$Escape", "isOneMoveBefore", "(LEmbayed$World;III)Z"⟩, 1), (⟨"Embayed$Escape", "leftBehindMove", "(LEmbayed$World;IIII)I"⟩, 1), (⟨"Embayed", "bestRowOfActs", "(I)I"⟩, 10), (⟨"Embayed", "livesByActs", "(II)I"⟩, 10), (⟨"Embayed$Chart", "seaSeenBy", "(II)I"⟩, 3), (⟨"EmbayedModel", "no", "(I)I"⟩, 37)]
theorem lw_r1 : ∀ q ∈ lw_privs_1, lw_okq q := List.forall_mem_cons.mpr ⟨lw_p0, List.forall_mem_cons.mpr ⟨lw_p1, List.forall_mem_cons.mpr ⟨lw_p2, List.forall_mem_cons.mpr ⟨lw_p3, List.forall_mem_cons.mpr ⟨lw_p4, List.forall_mem_cons.mpr ⟨lw_p5, List.forall_mem_cons.mpr ⟨lw_p6, List.forall_mem_cons.mpr ⟨lw_p7, List.forall_mem_cons.mpr ⟨lw_p8, List.forall_mem_cons.mpr ⟨lw_p9, List.forall_mem_cons.mpr ⟨lw_p10, List.forall_mem_cons.mpr ⟨lw_p11, List.forall_mem_cons.mpr ⟨lw_p12, List.forall_mem_cons.mpr ⟨lw_p13, List.forall_mem_cons.mpr ⟨lw_p14, List.forall_mem_cons.mpr ⟨lw_p15, fun _ h => absurd h List.not_mem_nil⟩⟩⟩⟩⟩⟩⟩⟩⟩⟩⟩⟩⟩⟩⟩⟩
theorem lw_p16 : lw_okq (⟨"EmbayedModel", "fault", "()I"⟩, 37) := ⟨⟨by decide +kernel, by decide +kernel⟩, List.mem_of_getElem? (i := 722) (by decide +kernel), List.mem_of_getElem? (i := 852) (by decide +kernel), List.mem_of_getElem? (i := 853) (by decide +kernel)⟩
theorem lw_p17 : lw_okq (⟨"EmbayedModel", "isCell", "(I)Z"⟩, 37) := ⟨⟨by decide +kernel, by decide +kernel⟩, List.mem_of_getElem? (i := 722) (by decide +kernel), List.mem_of_getElem? (i := 863) (by decide +kernel), List.mem_of_getElem? (i := 864) (by decide +kernel)⟩
theorem lw_p18 : lw_okq (⟨"EmbayedModel", "bears", "(I)Z"⟩, 37) := ⟨⟨by decide +kernel, by decide +kernel⟩, List.mem_of_getElem? (i := 722) (by decide +kernel), List.mem_of_getElem? (i := 886) (by decide +kernel), List.mem_of_getElem? (i := 887) (by decide +kernel)⟩
theorem lw_p19 : lw_okq (⟨"EmbayedModel", "isSea", "(I)Z"⟩, 37) := ⟨⟨by decide +kernel, by decide +kernel⟩, List.mem_of_getElem? (i := 722) (by decide +kernel), List.mem_of_getElem? (i := 890) (by decide +kernel), List.mem_of_getElem? (i := 891) (by decide +kernel)⟩
theorem lw_p20 : lw_okq (⟨"EmbayedModel", "lay", "(I)V"⟩, 37) := ⟨⟨by decide +kernel, by decide +kernel⟩, List.mem_of_getElem? (i := 722) (by decide +kernel), List.mem_of_getElem? (i := 894) (by decide +kernel), List.mem_of_getElem? (i := 895) (by decide +kernel)⟩
theorem lw_p21 : lw_okq (⟨"EmbayedModel", "wind", "(I)I"⟩, 37) := ⟨⟨by decide +kernel, by decide +kernel⟩, List.mem_of_getElem? (i := 722) (by decide +kernel), List.mem_of_getElem? (i := 898) (by decide +kernel), List.mem_of_getElem? (i := 899) (by decide +kernel)⟩
theorem lw_p22 : lw_okq (⟨"EmbayedModel", "tide", "(I)I"⟩, 37) := ⟨⟨by decide +kernel, by decide +kernel⟩, List.mem_of_getElem? (i := 722) (by decide +kernel), List.mem_of_getElem? (i := 906) (by decide +kernel), List.mem_of_getElem? (i := 907) (by decide +kernel)⟩
theorem lw_p23 : lw_okq (⟨"EmbayedModel", "lives", "()I"⟩, 37) := ⟨⟨by decide +kernel, by decide +kernel⟩, List.mem_of_getElem? (i := 722) (by decide +kernel), List.mem_of_getElem? (i := 910) (by decide +kernel), List.mem_of_getElem? (i := 911) (by decide +kernel)⟩
theorem lw_p24 : lw_okq (⟨"EmbayedModel", "step", "()V"⟩, 37) := ⟨⟨by decide +kernel, by decide +kernel⟩, List.mem_of_getElem? (i := 722) (by decide +kernel), List.mem_of_getElem? (i := 919) (by decide +kernel), List.mem_of_getElem? (i := 920) (by decide +kernel)⟩
theorem lw_p25 : lw_okq (⟨"EmbayedModel", "ended", "()Z"⟩, 37) := ⟨⟨by decide +kernel, by decide +kernel⟩, List.mem_of_getElem? (i := 722) (by decide +kernel), List.mem_of_getElem? (i := 923) (by decide +kernel), List.mem_of_getElem? (i := 924) (by decide +kernel)⟩
theorem lw_p26 : lw_okq (⟨"EmbayedModel", "into", "(I)V"⟩, 37) := ⟨⟨by decide +kernel, by decide +kernel⟩, List.mem_of_getElem? (i := 722) (by decide +kernel), List.mem_of_getElem? (i := 927) (by decide +kernel), List.mem_of_getElem? (i := 928) (by decide +kernel)⟩
theorem lw_p27 : lw_okq (⟨"EmbayedModel", "beside", "(II)I"⟩, 37) := ⟨⟨by decide +kernel, by decide +kernel⟩, List.mem_of_getElem? (i := 722) (by decide +kernel), List.mem_of_getElem? (i := 931) (by decide +kernel), List.mem_of_getElem? (i := 932) (by decide +kernel)⟩
theorem lw_p28 : lw_okq (⟨"EmbayedModel", "end", "(I)V"⟩, 37) := ⟨⟨by decide +kernel, by decide +kernel⟩, List.mem_of_getElem? (i := 722) (by decide +kernel), List.mem_of_getElem? (i := 935) (by decide +kernel), List.mem_of_getElem? (i := 936) (by decide +kernel)⟩
theorem lw_p29 : lw_okq (⟨"EmbayedModel", "mayTurn", "(I)Z"⟩, 37) := ⟨⟨by decide +kernel, by decide +kernel⟩, List.mem_of_getElem? (i := 722) (by decide +kernel), List.mem_of_getElem? (i := 947) (by decide +kernel), List.mem_of_getElem? (i := 948) (by decide +kernel)⟩
theorem lw_p30 : lw_okq (⟨"EmbayedModel", "through", "(I)Z"⟩, 37) := ⟨⟨by decide +kernel, by decide +kernel⟩, List.mem_of_getElem? (i := 722) (by decide +kernel), List.mem_of_getElem? (i := 951) (by decide +kernel), List.mem_of_getElem? (i := 952) (by decide +kernel)⟩
theorem lw_p31 : lw_okq (⟨"EmbayedModel", "wears", "(I)V"⟩, 37) := ⟨⟨by decide +kernel, by decide +kernel⟩, List.mem_of_getElem? (i := 722) (by decide +kernel), List.mem_of_getElem? (i := 959) (by decide +kernel), List.mem_of_getElem? (i := 960) (by decide +kernel)⟩
def lw_privs_2 : List (MethodName × Nat) := [(⟨"EmbayedModel", "fault", "()I"⟩, 37), (⟨"EmbayedModel", "isCell", "(I)Z"⟩, 37), (⟨"EmbayedModel", "bears", "(I)Z"⟩, 37), (⟨"EmbayedModel", "isSea", "(I)Z"⟩, 37), (⟨"EmbayedModel", "lay", "(I)V"⟩, 37), (⟨"EmbayedModel", "wind", "(I)I"⟩, 37), (⟨"EmbayedModel", "tide", "(I)I"⟩, 37), (⟨"EmbayedModel", "lives", "()I"⟩, 37), (⟨"EmbayedModel", "step", "()V"⟩, 37), (⟨"EmbayedModel", "ended", "()Z"⟩, 37), (⟨"EmbayedModel", "into", "(I)V"⟩, 37), (⟨"EmbayedModel", "beside", "(II)I"⟩, 37), (⟨"EmbayedModel", "end", "(I)V"⟩, 37), (⟨"EmbayedModel", "mayTurn", "(I)Z"⟩, 37), (⟨"EmbayedModel", "through", "(I)Z"⟩, 37), (⟨"EmbayedModel", "wears", "(I)V"⟩, 37)]
theorem lw_r2 : ∀ q ∈ lw_privs_2, lw_okq q := List.forall_mem_cons.mpr ⟨lw_p16, List.forall_mem_cons.mpr ⟨lw_p17, List.forall_mem_cons.mpr ⟨lw_p18, List.forall_mem_cons.mpr ⟨lw_p19, List.forall_mem_cons.mpr ⟨lw_p20, List.forall_mem_cons.mpr ⟨lw_p21, List.forall_mem_cons.mpr ⟨lw_p22, List.forall_mem_cons.mpr ⟨lw_p23, List.forall_mem_cons.mpr ⟨lw_p24, List.forall_mem_cons.mpr ⟨lw_p25, List.forall_mem_cons.mpr ⟨lw_p26, List.forall_mem_cons.mpr ⟨lw_p27, List.forall_mem_cons.mpr ⟨lw_p28, List.forall_mem_cons.mpr ⟨lw_p29, List.forall_mem_cons.mpr ⟨lw_p30, List.forall_mem_cons.mpr ⟨lw_p31, fun _ h => absurd h List.not_mem_nil⟩⟩⟩⟩⟩⟩⟩⟩⟩⟩⟩⟩⟩⟩⟩⟩
theorem lw_p32 : lw_okq (⟨"EmbayedModel", "mayAnchor", "()Z"⟩, 37) := ⟨⟨by decide +kernel, by decide +kernel⟩, List.mem_of_getElem? (i := 722) (by decide +kernel), List.mem_of_getElem? (i := 975) (by decide +kernel), List.mem_of_getElem? (i := 976) (by decide +kernel)⟩
theorem lw_p33 : lw_okq (⟨"EmbayedModel", "moves", "(I)I"⟩, 37) := ⟨⟨by decide +kernel, by decide +kernel⟩, List.mem_of_getElem? (i := 722) (by decide +kernel), List.mem_of_getElem? (i := 995) (by decide +kernel), List.mem_of_getElem? (i := 996) (by decide +kernel)⟩
theorem lw_p34 : lw_okq (⟨"EmbayedModel", "keep", "()V"⟩, 37) := ⟨⟨by decide +kernel, by decide +kernel⟩, List.mem_of_getElem? (i := 722) (by decide +kernel), List.mem_of_getElem? (i := 1007) (by decide +kernel), List.mem_of_getElem? (i := 1008) (by decide +kernel)⟩
theorem lw_p35 : lw_okq (⟨"EmbayedModel", "again", "()V"⟩, 37) := ⟨⟨by decide +kernel, by decide +kernel⟩, List.mem_of_getElem? (i := 722) (by decide +kernel), List.mem_of_getElem? (i := 1011) (by decide +kernel), List.mem_of_getElem? (i := 1012) (by decide +kernel)⟩
theorem lw_p36 : lw_okq (⟨"EmbayedModel", "tensLeft", "()I"⟩, 37) := ⟨⟨by decide +kernel, by decide +kernel⟩, List.mem_of_getElem? (i := 722) (by decide +kernel), List.mem_of_getElem? (i := 1020) (by decide +kernel), List.mem_of_getElem? (i := 1021) (by decide +kernel)⟩
theorem lw_p37 : lw_okq (⟨"EmbayedModel", "act", "(I)V"⟩, 37) := ⟨⟨by decide +kernel, by decide +kernel⟩, List.mem_of_getElem? (i := 722) (by decide +kernel), List.mem_of_getElem? (i := 1036) (by decide +kernel), List.mem_of_getElem? (i := 1037) (by decide +kernel)⟩
theorem lw_p38 : lw_okq (⟨"EmbayedModel", "draw", "(I)I"⟩, 37) := ⟨⟨by decide +kernel, by decide +kernel⟩, List.mem_of_getElem? (i := 722) (by decide +kernel), List.mem_of_getElem? (i := 1056) (by decide +kernel), List.mem_of_getElem? (i := 1057) (by decide +kernel)⟩
def lw_privs_3 : List (MethodName × Nat) := [(⟨"EmbayedModel", "mayAnchor", "()Z"⟩, 37), (⟨"EmbayedModel", "moves", "(I)I"⟩, 37), (⟨"EmbayedModel", "keep", "()V"⟩, 37), (⟨"EmbayedModel", "again", "()V"⟩, 37), (⟨"EmbayedModel", "tensLeft", "()I"⟩, 37), (⟨"EmbayedModel", "act", "(I)V"⟩, 37), (⟨"EmbayedModel", "draw", "(I)I"⟩, 37)]
theorem lw_r3 : ∀ q ∈ lw_privs_3, lw_okq q := List.forall_mem_cons.mpr ⟨lw_p32, List.forall_mem_cons.mpr ⟨lw_p33, List.forall_mem_cons.mpr ⟨lw_p34, List.forall_mem_cons.mpr ⟨lw_p35, List.forall_mem_cons.mpr ⟨lw_p36, List.forall_mem_cons.mpr ⟨lw_p37, List.forall_mem_cons.mpr ⟨lw_p38, fun _ h => absurd h List.not_mem_nil⟩⟩⟩⟩⟩⟩⟩
def lw_privs : List (MethodName × Nat) := lw_privs_1 ++ (lw_privs_2 ++ (lw_privs_3))
def lw_tbl : List Cond := k2_sels lw_privs ++ tables_1
theorem lw_privs_ok : ∀ q ∈ lw_privs, lw_okq q := by
  show ∀ q ∈ lw_privs_1 ++ (lw_privs_2 ++ (lw_privs_3)), lw_okq q
  exact List.forall_mem_append.mpr ⟨lw_r1, List.forall_mem_append.mpr ⟨lw_r2, lw_r3⟩⟩
def RX0 : String := "Embayed$Book"
def TX0 : u_T := fun k => match k with
  | 0 => ("Embayed$Book", "tens", "[I", true)
  | 1 => ("Embayed$Book", "values", "[I", true)
  | _ => ("Embayed$Book", "told", "I", false)
def tyX0 : Nat → FieldType := fun k => match k with
  | 0 => .array .int
  | 1 => .array .int
  | _ => .int
abbrev wsX00 : List Cond := u_ws RX0 TX0 3
theorem nmX0 : ∀ a, a < 3 → ∀ b, b < 3 → a ≠ b → (TX0 a).2.1 ≠ (TX0 b).2.1 := by decide +kernel
theorem tyX0_ok : ∀ k, k < 3 → parseFieldDescriptor (TX0 k).2.2.1 = some (tyX0 k) := by decide +kernel
abbrev cX0_init : ByteArray := prog_2_method_1_code
def yX0_init : MethodName := ⟨RX0, "<init>", "()V"⟩
abbrev cX0_isFull : ByteArray := prog_2_method_2_code
def yX0_isFull : MethodName := ⟨RX0, "isFull", "()Z"⟩
abbrev cX0_tell : ByteArray := prog_2_method_3_code
def yX0_tell : MethodName := ⟨RX0, "tell", "(II)I"⟩
abbrev cX0_latestAt : ByteArray := prog_2_method_4_code
def yX0_latestAt : MethodName := ⟨RX0, "latestAt", "(I)I"⟩
abbrev cX0_copyFrom : ByteArray := prog_2_method_5_code
def yX0_copyFrom : MethodName := ⟨RX0, "copyFrom", "(LEmbayed$Book;)V"⟩
def RX1 : String := "Embayed$Chart"
def TX1 : u_T := fun k => match k with
  | 0 => ("Embayed$Chart", "grounds", "[I", true)
  | 1 => ("Embayed$Chart", "rows", "I", false)
  | _ => ("Embayed$Chart", "columns", "I", false)
def tyX1 : Nat → FieldType := fun k => match k with
  | 0 => .array .int
  | 1 => .int
  | _ => .int
abbrev wsX10 : List Cond := u_ws RX1 TX1 3
theorem nmX1 : ∀ a, a < 3 → ∀ b, b < 3 → a ≠ b → (TX1 a).2.1 ≠ (TX1 b).2.1 := by decide +kernel
theorem tyX1_ok : ∀ k, k < 3 → parseFieldDescriptor (TX1 k).2.2.1 = some (tyX1 k) := by decide +kernel
abbrev cX1_init : ByteArray := prog_3_method_1_code
def yX1_init : MethodName := ⟨RX1, "<init>", "()V"⟩
abbrev cX1_draw : ByteArray := prog_3_method_2_code
def yX1_draw : MethodName := ⟨RX1, "draw", "(LEmbayed$Letters;)V"⟩
abbrev cX1_cells : ByteArray := prog_3_method_3_code
def yX1_cells : MethodName := ⟨RX1, "cells", "()I"⟩
abbrev cX1_has : ByteArray := prog_3_method_4_code
def yX1_has : MethodName := ⟨RX1, "has", "(I)Z"⟩
abbrev cX1_groundAt : ByteArray := prog_3_method_5_code
def yX1_groundAt : MethodName := ⟨RX1, "groundAt", "(I)I"⟩
abbrev cX1_beside : ByteArray := prog_3_method_6_code
def yX1_beside : MethodName := ⟨RX1, "beside", "(II)I"⟩
abbrev cX1_hasBeach : ByteArray := prog_3_method_7_code
def yX1_hasBeach : MethodName := ⟨RX1, "hasBeach", "()Z"⟩
abbrev cX1_seaSeenFrom : ByteArray := prog_3_method_8_code
def yX1_seaSeenFrom : MethodName := ⟨RX1, "seaSeenFrom", "(I)I"⟩
abbrev cX1_seaSeenBy : ByteArray := prog_3_method_9_code
def yX1_seaSeenBy : MethodName := ⟨RX1, "seaSeenBy", "(II)I"⟩
abbrev cX1_copyFrom : ByteArray := prog_3_method_10_code
def yX1_copyFrom : MethodName := ⟨RX1, "copyFrom", "(LEmbayed$Chart;)V"⟩
def RX2 : String := "Embayed$Escape"
def TX2 : u_T := fun k => match k with
  | _ => ("Embayed$Escape", "moves", "[I", true)
def tyX2 : Nat → FieldType := fun k => match k with
  | _ => .array .int
abbrev wsX20 : List Cond := u_ws RX2 TX2 1
theorem nmX2 : ∀ a, a < 1 → ∀ b, b < 1 → a ≠ b → (TX2 a).2.1 ≠ (TX2 b).2.1 := by decide +kernel
theorem tyX2_ok : ∀ k, k < 1 → parseFieldDescriptor (TX2 k).2.2.1 = some (tyX2 k) := by decide +kernel
abbrev cX2_init : ByteArray := prog_4_method_1_code
def yX2_init : MethodName := ⟨RX2, "<init>", "()V"⟩
abbrev cX2_movesFrom : ByteArray := prog_4_method_2_code
def yX2_movesFrom : MethodName := ⟨RX2, "movesFrom", "(I)I"⟩
abbrev cX2_reckon : ByteArray := prog_4_method_3_code
def yX2_reckon : MethodName := ⟨RX2, "reckon", "(LEmbayed$World;I)V"⟩
abbrev cX2_markRound : ByteArray := prog_4_method_4_code
def yX2_markRound : MethodName := ⟨RX2, "markRound", "(LEmbayed$World;II)Z"⟩
abbrev cX2_isOneMoveBefore : ByteArray := prog_4_method_5_code
def yX2_isOneMoveBefore : MethodName := ⟨RX2, "isOneMoveBefore", "(LEmbayed$World;III)Z"⟩
abbrev cX2_leftBehindMove : ByteArray := prog_4_method_6_code
def yX2_leftBehindMove : MethodName := ⟨RX2, "leftBehindMove", "(LEmbayed$World;IIII)I"⟩
def RX3 : String := "Embayed$Letters"
def TX3 : u_T := fun k => match k with
  | 0 => ("Embayed$Letters", "signs", "[I", true)
  | _ => ("Embayed$Letters", "told", "I", false)
def tyX3 : Nat → FieldType := fun k => match k with
  | 0 => .array .int
  | _ => .int
abbrev wsX30 : List Cond := u_ws RX3 TX3 2
theorem nmX3 : ∀ a, a < 2 → ∀ b, b < 2 → a ≠ b → (TX3 a).2.1 ≠ (TX3 b).2.1 := by decide +kernel
theorem tyX3_ok : ∀ k, k < 2 → parseFieldDescriptor (TX3 k).2.2.1 = some (tyX3 k) := by decide +kernel
abbrev cX3_init : ByteArray := prog_5_method_1_code
def yX3_init : MethodName := ⟨RX3, "<init>", "()V"⟩
abbrev cX3_tell : ByteArray := prog_5_method_2_code
def yX3_tell : MethodName := ⟨RX3, "tell", "(I)I"⟩
abbrev cX3_forget : ByteArray := prog_5_method_3_code
def yX3_forget : MethodName := ⟨RX3, "forget", "()V"⟩
abbrev cX3_signAt : ByteArray := prog_5_method_4_code
def yX3_signAt : MethodName := ⟨RX3, "signAt", "(I)I"⟩
abbrev cX3_faultPlace : ByteArray := prog_5_method_5_code
def yX3_faultPlace : MethodName := ⟨RX3, "faultPlace", "()I"⟩
abbrev cX3_groundOf : ByteArray := prog_5_method_6_code
def yX3_groundOf : MethodName := ⟨RX3, "groundOf", "(I)I"⟩
def RX4 : String := "Embayed$LogBook"
def TX4 : u_T := fun k => match k with
  | 0 => ("Embayed$LogBook", "places", "[I", true)
  | _ => ("Embayed$LogBook", "told", "I", false)
def tyX4 : Nat → FieldType := fun k => match k with
  | 0 => .array .int
  | _ => .int
abbrev wsX40 : List Cond := u_ws RX4 TX4 2
theorem nmX4 : ∀ a, a < 2 → ∀ b, b < 2 → a ≠ b → (TX4 a).2.1 ≠ (TX4 b).2.1 := by decide +kernel
theorem tyX4_ok : ∀ k, k < 2 → parseFieldDescriptor (TX4 k).2.2.1 = some (tyX4 k) := by decide +kernel
abbrev cX4_init : ByteArray := prog_6_method_1_code
def yX4_init : MethodName := ⟨RX4, "<init>", "()V"⟩
abbrev cX4_isFull : ByteArray := prog_6_method_2_code
def yX4_isFull : MethodName := ⟨RX4, "isFull", "()Z"⟩
abbrev cX4_tell : ByteArray := prog_6_method_3_code
def yX4_tell : MethodName := ⟨RX4, "tell", "(I)I"⟩
abbrev cX4_firstWrong : ByteArray := prog_6_method_4_code
def yX4_firstWrong : MethodName := ⟨RX4, "firstWrong", "(LEmbayed$World;LEmbayed$Ship;)I"⟩
def RX5 : String := "Embayed$Ship"
def TX5 : u_T := fun k => match k with
  | 0 => ("Embayed$Ship", "inBay", "Z", false)
  | 1 => ("Embayed$Ship", "place", "I", false)
  | 2 => ("Embayed$Ship", "heading", "I", false)
  | 3 => ("Embayed$Ship", "sails", "I", false)
  | 4 => ("Embayed$Ship", "masts", "I", false)
  | 5 => ("Embayed$Ship", "anchors", "I", false)
  | 6 => ("Embayed$Ship", "water", "I", false)
  | 7 => ("Embayed$Ship", "gone", "I", false)
  | 8 => ("Embayed$Ship", "slid", "I", false)
  | 9 => ("Embayed$Ship", "ten", "I", false)
  | 10 => ("Embayed$Ship", "kind", "I", false)
  | 11 => ("Embayed$Ship", "endedTide", "I", false)
  | 12 => ("Embayed$Ship", "endedDark", "Z", false)
  | 13 => ("Embayed$Ship", "gunless", "Z", false)
  | 14 => ("Embayed$Ship", "turned", "I", false)
  | 15 => ("Embayed$Ship", "toldFrom", "I", false)
  | _ => ("Embayed$Ship", "toldWind", "I", false)
def tyX5 : Nat → FieldType := fun k => match k with
  | 0 => .boolean
  | 1 => .int
  | 2 => .int
  | 3 => .int
  | 4 => .int
  | 5 => .int
  | 6 => .int
  | 7 => .int
  | 8 => .int
  | 9 => .int
  | 10 => .int
  | 11 => .int
  | 12 => .boolean
  | 13 => .boolean
  | 14 => .int
  | 15 => .int
  | _ => .int
abbrev wsX50 : List Cond := u_ws RX5 TX5 17
theorem nmX5 : ∀ a, a < 17 → ∀ b, b < 17 → a ≠ b → (TX5 a).2.1 ≠ (TX5 b).2.1 := by decide +kernel
theorem tyX5_ok : ∀ k, k < 17 → parseFieldDescriptor (TX5 k).2.2.1 = some (tyX5 k) := by decide +kernel
abbrev cX5_init : ByteArray := prog_7_method_1_code
def yX5_init : MethodName := ⟨RX5, "<init>", "()V"⟩
abbrev cX5_leaveBay : ByteArray := prog_7_method_2_code
def yX5_leaveBay : MethodName := ⟨RX5, "leaveBay", "()V"⟩
abbrev cX5_layIn : ByteArray := prog_7_method_3_code
def yX5_layIn : MethodName := ⟨RX5, "layIn", "(I)V"⟩
abbrev cX5_copyFrom : ByteArray := prog_7_method_4_code
def yX5_copyFrom : MethodName := ⟨RX5, "copyFrom", "(LEmbayed$Ship;)V"⟩
abbrev cX5_isEnded : ByteArray := prog_7_method_5_code
def yX5_isEnded : MethodName := ⟨RX5, "isEnded", "()Z"⟩
abbrev cX5_isAlive : ByteArray := prog_7_method_6_code
def yX5_isAlive : MethodName := ⟨RX5, "isAlive", "()Z"⟩
abbrev cX5_windIn : ByteArray := prog_7_method_7_code
def yX5_windIn : MethodName := ⟨RX5, "windIn", "(LEmbayed$World;)I"⟩
abbrev cX5_tideIn : ByteArray := prog_7_method_8_code
def yX5_tideIn : MethodName := ⟨RX5, "tideIn", "(LEmbayed$World;)I"⟩
abbrev cX5_livesIn : ByteArray := prog_7_method_9_code
def yX5_livesIn : MethodName := ⟨RX5, "livesIn", "(LEmbayed$World;)I"⟩
abbrev cX5_mayTurn : ByteArray := prog_7_method_10_code
def yX5_mayTurn : MethodName := ⟨RX5, "mayTurn", "(LEmbayed$World;I)Z"⟩
abbrev cX5_wouldFailInStays : ByteArray := prog_7_method_11_code
def yX5_wouldFailInStays : MethodName := ⟨RX5, "wouldFailInStays", "(LEmbayed$World;I)Z"⟩
abbrev cX5_passesWind : ByteArray := prog_7_method_12_code
def yX5_passesWind : MethodName := ⟨RX5, "passesWind", "(II)Z"⟩
abbrev cX5_mayAnchor : ByteArray := prog_7_method_13_code
def yX5_mayAnchor : MethodName := ⟨RX5, "mayAnchor", "()Z"⟩
abbrev cX5_turnBeforeWind : ByteArray := prog_7_method_14_code
def yX5_turnBeforeWind : MethodName := ⟨RX5, "turnBeforeWind", "(LEmbayed$World;I)V"⟩
abbrev cX5_turnRoundAnchor : ByteArray := prog_7_method_15_code
def yX5_turnRoundAnchor : MethodName := ⟨RX5, "turnRoundAnchor", "(I)V"⟩
abbrev cX5_tryAct : ByteArray := prog_7_method_16_code
def yX5_tryAct : MethodName := ⟨RX5, "tryAct", "(LEmbayed$World;I)V"⟩
abbrev cX5_passTens : ByteArray := prog_7_method_17_code
def yX5_passTens : MethodName := ⟨RX5, "passTens", "(LEmbayed$World;I)V"⟩
abbrev cX5_tensTillEnded : ByteArray := prog_7_method_18_code
def yX5_tensTillEnded : MethodName := ⟨RX5, "tensTillEnded", "(LEmbayed$World;)I"⟩
abbrev cX5_passTen : ByteArray := prog_7_method_19_code
def yX5_passTen : MethodName := ⟨RX5, "passTen", "(LEmbayed$World;)V"⟩
abbrev cX5_paceIn : ByteArray := prog_7_method_20_code
def yX5_paceIn : MethodName := ⟨RX5, "paceIn", "(LEmbayed$World;)I"⟩
abbrev cX5_strainAtAnchor : ByteArray := prog_7_method_21_code
def yX5_strainAtAnchor : MethodName := ⟨RX5, "strainAtAnchor", "(LEmbayed$World;)V"⟩
abbrev cX5_goOn : ByteArray := prog_7_method_22_code
def yX5_goOn : MethodName := ⟨RX5, "goOn", "(LEmbayed$World;I)V"⟩
abbrev cX5_goInto : ByteArray := prog_7_method_23_code
def yX5_goInto : MethodName := ⟨RX5, "goInto", "(LEmbayed$World;I)V"⟩
abbrev cX5_endAs : ByteArray := prog_7_method_24_code
def yX5_endAs : MethodName := ⟨RX5, "endAs", "(IIZ)V"⟩
abbrev cX5_leak : ByteArray := prog_7_method_25_code
def yX5_leak : MethodName := ⟨RX5, "leak", "(LEmbayed$World;)V"⟩
abbrev cX5_settleKind : ByteArray := prog_7_method_26_code
def yX5_settleKind : MethodName := ⟨RX5, "settleKind", "(LEmbayed$World;I)V"⟩
def RX6 : String := "Embayed$World"
def TX6 : u_T := fun k => match k with
  | 0 => ("Embayed$World", "chart", "LEmbayed$Chart;", true)
  | 1 => ("Embayed$World", "shifts", "LEmbayed$Book;", true)
  | 2 => ("Embayed$World", "tides", "LEmbayed$Book;", true)
  | 3 => ("Embayed$World", "sea", "I", false)
  | 4 => ("Embayed$World", "draft", "I", false)
  | 5 => ("Embayed$World", "leak", "I", false)
  | 6 => ("Embayed$World", "crew", "I", false)
  | 7 => ("Embayed$World", "near", "I", false)
  | 8 => ("Embayed$World", "guns", "I", false)
  | _ => ("Embayed$World", "dark", "I", false)
def tyX6 : Nat → FieldType := fun k => match k with
  | 0 => .object "Embayed$Chart"
  | 1 => .object "Embayed$Book"
  | 2 => .object "Embayed$Book"
  | 3 => .int
  | 4 => .int
  | 5 => .int
  | 6 => .int
  | 7 => .int
  | 8 => .int
  | _ => .int
abbrev wsX60 : List Cond := u_ws RX6 TX6 10
theorem nmX6 : ∀ a, a < 10 → ∀ b, b < 10 → a ≠ b → (TX6 a).2.1 ≠ (TX6 b).2.1 := by decide +kernel
theorem tyX6_ok : ∀ k, k < 10 → parseFieldDescriptor (TX6 k).2.2.1 = some (tyX6 k) := by decide +kernel
abbrev cX6_init : ByteArray := prog_8_method_1_code
def yX6_init : MethodName := ⟨RX6, "<init>", "()V"⟩
abbrev cX6_setting : ByteArray := prog_8_method_2_code
def yX6_setting : MethodName := ⟨RX6, "setting", "(I)I"⟩
abbrev cX6_change : ByteArray := prog_8_method_3_code
def yX6_change : MethodName := ⟨RX6, "change", "(II)V"⟩
abbrev cX6_floatsAt : ByteArray := prog_8_method_4_code
def yX6_floatsAt : MethodName := ⟨RX6, "floatsAt", "(I)Z"⟩
abbrev cX6_isDarkAt : ByteArray := prog_8_method_5_code
def yX6_isDarkAt : MethodName := ⟨RX6, "isDarkAt", "(I)Z"⟩
abbrev cX6_livesOnBeach : ByteArray := prog_8_method_6_code
def yX6_livesOnBeach : MethodName := ⟨RX6, "livesOnBeach", "(IZ)I"⟩
abbrev cX6_copyFrom : ByteArray := prog_8_method_7_code
def yX6_copyFrom : MethodName := ⟨RX6, "copyFrom", "(LEmbayed$World;)V"⟩
def RX7 : String := "Embayed"
def TX7 : u_T := fun k => match k with
  | 0 => ("Embayed", "letters", "LEmbayed$Letters;", true)
  | 1 => ("Embayed", "world", "LEmbayed$World;", true)
  | 2 => ("Embayed", "ship", "LEmbayed$Ship;", true)
  | 3 => ("Embayed", "mind", "LEmbayed$Ship;", true)
  | 4 => ("Embayed", "worldThen", "LEmbayed$World;", true)
  | 5 => ("Embayed", "shipThen", "LEmbayed$Ship;", true)
  | 6 => ("Embayed", "escape", "LEmbayed$Escape;", true)
  | 7 => ("Embayed", "logBook", "LEmbayed$LogBook;", true)
  | 8 => ("Embayed", "refusals", "[I", true)
  | _ => ("Embayed", "imageTaken", "Z", false)
def tyX7 : Nat → FieldType := fun k => match k with
  | 0 => .object "Embayed$Letters"
  | 1 => .object "Embayed$World"
  | 2 => .object "Embayed$Ship"
  | 3 => .object "Embayed$Ship"
  | 4 => .object "Embayed$World"
  | 5 => .object "Embayed$Ship"
  | 6 => .object "Embayed$Escape"
  | 7 => .object "Embayed$LogBook"
  | 8 => .array .int
  | _ => .boolean
abbrev wsX70 : List Cond := u_ws RX7 TX7 10
theorem nmX7 : ∀ a, a < 10 → ∀ b, b < 10 → a ≠ b → (TX7 a).2.1 ≠ (TX7 b).2.1 := by decide +kernel
theorem tyX7_ok : ∀ k, k < 10 → parseFieldDescriptor (TX7 k).2.2.1 = some (tyX7 k) := by decide +kernel
abbrev cX7_init : ByteArray := prog_1_method_1_code
def yX7_init : MethodName := ⟨RX7, "<init>", "()V"⟩
abbrev cX7_letter : ByteArray := prog_1_method_2_code
def yX7_letter : MethodName := ⟨RX7, "letter", "(I)I"⟩
abbrev cX7_bay : ByteArray := prog_1_method_3_code
def yX7_bay : MethodName := ⟨RX7, "bay", "()I"⟩
abbrev cX7_cell : ByteArray := prog_1_method_4_code
def yX7_cell : MethodName := ⟨RX7, "cell", "(I)I"⟩
abbrev cX7_set : ByteArray := prog_1_method_5_code
def yX7_set : MethodName := ⟨RX7, "set", "(II)I"⟩
abbrev cX7_wind : ByteArray := prog_1_method_6_code
def yX7_wind : MethodName := ⟨RX7, "wind", "(II)I"⟩
abbrev cX7_tide : ByteArray := prog_1_method_7_code
def yX7_tide : MethodName := ⟨RX7, "tide", "(II)I"⟩
abbrev cX7_lays : ByteArray := prog_1_method_8_code
def yX7_lays : MethodName := ⟨RX7, "lays", "(I)I"⟩
abbrev cX7_now : ByteArray := prog_1_method_9_code
def yX7_now : MethodName := ⟨RX7, "now", "(I)I"⟩
abbrev cX7_run : ByteArray := prog_1_method_10_code
def yX7_run : MethodName := ⟨RX7, "run", "(I)I"⟩
abbrev cX7_head : ByteArray := prog_1_method_11_code
def yX7_head : MethodName := ⟨RX7, "head", "(I)I"⟩
abbrev cX7_wear : ByteArray := prog_1_method_12_code
def yX7_wear : MethodName := ⟨RX7, "wear", "(I)I"⟩
abbrev cX7_haul : ByteArray := prog_1_method_13_code
def yX7_haul : MethodName := ⟨RX7, "haul", "(I)I"⟩
abbrev cX7_sail : ByteArray := prog_1_method_14_code
def yX7_sail : MethodName := ⟨RX7, "sail", "(I)I"⟩
abbrev cX7_anchor : ByteArray := prog_1_method_15_code
def yX7_anchor : MethodName := ⟨RX7, "anchor", "()I"⟩
abbrev cX7_cut : ByteArray := prog_1_method_16_code
def yX7_cut : MethodName := ⟨RX7, "cut", "()I"⟩
abbrev cX7_axe : ByteArray := prog_1_method_17_code
def yX7_axe : MethodName := ⟨RX7, "axe", "()I"⟩
abbrev cX7_over : ByteArray := prog_1_method_18_code
def yX7_over : MethodName := ⟨RX7, "over", "()I"⟩
abbrev cX7_still : ByteArray := prog_1_method_19_code
def yX7_still : MethodName := ⟨RX7, "still", "(I)I"⟩
abbrev cX7_clears : ByteArray := prog_1_method_20_code
def yX7_clears : MethodName := ⟨RX7, "clears", "()I"⟩
abbrev cX7_line : ByteArray := prog_1_method_21_code
def yX7_line : MethodName := ⟨RX7, "line", "()I"⟩
abbrev cX7_lighter : ByteArray := prog_1_method_22_code
def yX7_lighter : MethodName := ⟨RX7, "lighter", "()I"⟩
abbrev cX7_holds : ByteArray := prog_1_method_23_code
def yX7_holds : MethodName := ⟨RX7, "holds", "(III)I"⟩
abbrev cX7_beachBest : ByteArray := prog_1_method_24_code
def yX7_beachBest : MethodName := ⟨RX7, "beachBest", "()I"⟩
abbrev cX7_plan : ByteArray := prog_1_method_25_code
def yX7_plan : MethodName := ⟨RX7, "plan", "(II)I"⟩
abbrev cX7_stood : ByteArray := prog_1_method_26_code
def yX7_stood : MethodName := ⟨RX7, "stood", "(II)I"⟩
abbrev cX7_worth : ByteArray := prog_1_method_27_code
def yX7_worth : MethodName := ⟨RX7, "worth", "(II)I"⟩
abbrev cX7_light : ByteArray := prog_1_method_28_code
def yX7_light : MethodName := ⟨RX7, "light", "()I"⟩
abbrev cX7_night : ByteArray := prog_1_method_29_code
def yX7_night : MethodName := ⟨RX7, "night", "(II)I"⟩
abbrev cX7_log : ByteArray := prog_1_method_30_code
def yX7_log : MethodName := ⟨RX7, "log", "(I)I"⟩
abbrev cX7_judge : ByteArray := prog_1_method_31_code
def yX7_judge : MethodName := ⟨RX7, "judge", "()I"⟩
abbrev cX7_image : ByteArray := prog_1_method_32_code
def yX7_image : MethodName := ⟨RX7, "image", "()I"⟩
abbrev cX7_on : ByteArray := prog_1_method_33_code
def yX7_on : MethodName := ⟨RX7, "on", "()I"⟩
abbrev cX7_count : ByteArray := prog_1_method_34_code
def yX7_count : MethodName := ⟨RX7, "count", "(I)I"⟩
abbrev cX7_refuse : ByteArray := prog_1_method_35_code
def yX7_refuse : MethodName := ⟨RX7, "refuse", "(I)I"⟩
abbrev cX7_bestRowOfActs : ByteArray := prog_1_method_36_code
def yX7_bestRowOfActs : MethodName := ⟨RX7, "bestRowOfActs", "(I)I"⟩
abbrev cX7_livesByActs : ByteArray := prog_1_method_37_code
def yX7_livesByActs : MethodName := ⟨RX7, "livesByActs", "(II)I"⟩
abbrev cX7_actInRow : ByteArray := prog_1_method_38_code
def yX7_actInRow : MethodName := ⟨RX7, "actInRow", "(III)I"⟩
abbrev cX7_valueAt : ByteArray := prog_1_method_39_code
def yX7_valueAt : MethodName := ⟨RX7, "valueAt", "([II)I"⟩
abbrev cX7_copyRow : ByteArray := prog_1_method_40_code
def yX7_copyRow : MethodName := ⟨RX7, "copyRow", "([I[I)V"⟩
abbrev cX7_isDirection : ByteArray := prog_1_method_41_code
def yX7_isDirection : MethodName := ⟨RX7, "isDirection", "(I)Z"⟩
abbrev cX7_goneRound : ByteArray := prog_1_method_42_code
def yX7_goneRound : MethodName := ⟨RX7, "goneRound", "(I)I"⟩
abbrev cX7_leeOf : ByteArray := prog_1_method_43_code
def yX7_leeOf : MethodName := ⟨RX7, "leeOf", "(I)I"⟩
abbrev cX7_apart : ByteArray := prog_1_method_44_code
def yX7_apart : MethodName := ⟨RX7, "apart", "(II)I"⟩
abbrev cX7_isSea : ByteArray := prog_1_method_45_code
def yX7_isSea : MethodName := ⟨RX7, "isSea", "(I)Z"⟩
abbrev cX7_holdOf : ByteArray := prog_1_method_46_code
def yX7_holdOf : MethodName := ⟨RX7, "holdOf", "(II)I"⟩
abbrev cX7_loadOf : ByteArray := prog_1_method_47_code
def yX7_loadOf : MethodName := ⟨RX7, "loadOf", "(II)I"⟩
abbrev cX7_seedAfter : ByteArray := prog_1_method_48_code
def yX7_seedAfter : MethodName := ⟨RX7, "seedAfter", "(I)I"⟩
abbrev cX7_drawn : ByteArray := prog_1_method_49_code
def yX7_drawn : MethodName := ⟨RX7, "drawn", "(II)I"⟩
def RX8 : String := "EmbayedModel"
def TX8 : u_T := fun k => match k with
  | 0 => ("EmbayedModel", "rows", "I", false)
  | 1 => ("EmbayedModel", "columns", "I", false)
  | 2 => ("EmbayedModel", "bay", "[I", true)
  | 3 => ("EmbayedModel", "letters", "I", false)
  | 4 => ("EmbayedModel", "letter", "[I", true)
  | 5 => ("EmbayedModel", "setting", "[I", true)
  | 6 => ("EmbayedModel", "shifts", "I", false)
  | 7 => ("EmbayedModel", "shiftTen", "[I", true)
  | 8 => ("EmbayedModel", "shiftWind", "[I", true)
  | 9 => ("EmbayedModel", "tides", "I", false)
  | 10 => ("EmbayedModel", "tideTen", "[I", true)
  | 11 => ("EmbayedModel", "tideHigh", "[I", true)
  | 12 => ("EmbayedModel", "ship", "Z", false)
  | 13 => ("EmbayedModel", "cell", "I", false)
  | 14 => ("EmbayedModel", "head", "I", false)
  | 15 => ("EmbayedModel", "sail", "I", false)
  | 16 => ("EmbayedModel", "masts", "I", false)
  | 17 => ("EmbayedModel", "anchors", "I", false)
  | 18 => ("EmbayedModel", "water", "I", false)
  | 19 => ("EmbayedModel", "gone", "I", false)
  | 20 => ("EmbayedModel", "slid", "I", false)
  | 21 => ("EmbayedModel", "ten", "I", false)
  | 22 => ("EmbayedModel", "kind", "I", false)
  | 23 => ("EmbayedModel", "endTide", "I", false)
  | 24 => ("EmbayedModel", "endDark", "Z", false)
  | 25 => ("EmbayedModel", "veered", "I", false)
  | 26 => ("EmbayedModel", "mindTen", "I", false)
  | 27 => ("EmbayedModel", "mindWind", "I", false)
  | 28 => ("EmbayedModel", "logged", "I", false)
  | 29 => ("EmbayedModel", "log", "[I", true)
  | 30 => ("EmbayedModel", "refused", "[I", true)
  | 31 => ("EmbayedModel", "imaged", "Z", false)
  | 32 => ("EmbayedModel", "image", "[I", true)
  | 33 => ("EmbayedModel", "kept", "[I", true)
  | 34 => ("EmbayedModel", "far", "[I", true)
  | 35 => ("EmbayedModel", "queue", "[I", true)
  | _ => ("EmbayedModel", "random", "I", false)
def tyX8 : Nat → FieldType := fun k => match k with
  | 0 => .int
  | 1 => .int
  | 2 => .array .int
  | 3 => .int
  | 4 => .array .int
  | 5 => .array .int
  | 6 => .int
  | 7 => .array .int
  | 8 => .array .int
  | 9 => .int
  | 10 => .array .int
  | 11 => .array .int
  | 12 => .boolean
  | 13 => .int
  | 14 => .int
  | 15 => .int
  | 16 => .int
  | 17 => .int
  | 18 => .int
  | 19 => .int
  | 20 => .int
  | 21 => .int
  | 22 => .int
  | 23 => .int
  | 24 => .boolean
  | 25 => .int
  | 26 => .int
  | 27 => .int
  | 28 => .int
  | 29 => .array .int
  | 30 => .array .int
  | 31 => .boolean
  | 32 => .array .int
  | 33 => .array .int
  | 34 => .array .int
  | 35 => .array .int
  | _ => .int
abbrev wsX80 : List Cond := u_ws RX8 TX8 37
theorem nmX8 : ∀ a, a < 37 → ∀ b, b < 37 → a ≠ b → (TX8 a).2.1 ≠ (TX8 b).2.1 := by decide +kernel
theorem tyX8_ok : ∀ k, k < 37 → parseFieldDescriptor (TX8 k).2.2.1 = some (tyX8 k) := by decide +kernel
abbrev cX8_init : ByteArray := prog_10_method_1_code
def yX8_init : MethodName := ⟨RX8, "<init>", "()V"⟩
abbrev cX8_no : ByteArray := prog_10_method_2_code
def yX8_no : MethodName := ⟨RX8, "no", "(I)I"⟩
abbrev cX8_isCell : ByteArray := prog_10_method_3_code
def yX8_isCell : MethodName := ⟨RX8, "isCell", "(I)Z"⟩
abbrev cX8_isDirection : ByteArray := prog_10_method_4_code
def yX8_isDirection : MethodName := ⟨RX8, "isDirection", "(I)Z"⟩
abbrev cX8_letter : ByteArray := prog_10_method_5_code
def yX8_letter : MethodName := ⟨RX8, "letter", "(I)I"⟩
abbrev cX8_ground : ByteArray := prog_10_method_6_code
def yX8_ground : MethodName := ⟨RX8, "ground", "(I)I"⟩
abbrev cX8_fault : ByteArray := prog_10_method_7_code
def yX8_fault : MethodName := ⟨RX8, "fault", "()I"⟩
abbrev cX8_bay : ByteArray := prog_10_method_8_code
def yX8_bay : MethodName := ⟨RX8, "bay", "()I"⟩
abbrev cX8_cell : ByteArray := prog_10_method_9_code
def yX8_cell : MethodName := ⟨RX8, "cell", "(I)I"⟩
abbrev cX8_set : ByteArray := prog_10_method_10_code
def yX8_set : MethodName := ⟨RX8, "set", "(II)I"⟩
abbrev cX8_wind : ByteArray := prog_10_method_11_code
def yX8_wind : MethodName := ⟨RX8, "wind", "(II)I"⟩
abbrev cX8_tide : ByteArray := prog_10_method_12_code
def yX8_tide : MethodName := ⟨RX8, "tide", "(II)I"⟩
abbrev cX8_wind_ : ByteArray := prog_10_method_13_code
def yX8_wind_ : MethodName := ⟨RX8, "wind", "(I)I"⟩
abbrev cX8_tide_ : ByteArray := prog_10_method_14_code
def yX8_tide_ : MethodName := ⟨RX8, "tide", "(I)I"⟩
abbrev cX8_apart : ByteArray := prog_10_method_15_code
def yX8_apart : MethodName := ⟨RX8, "apart", "(II)I"⟩
abbrev cX8_isSea : ByteArray := prog_10_method_16_code
def yX8_isSea : MethodName := ⟨RX8, "isSea", "(I)Z"⟩
abbrev cX8_bears : ByteArray := prog_10_method_17_code
def yX8_bears : MethodName := ⟨RX8, "bears", "(I)Z"⟩
abbrev cX8_lay : ByteArray := prog_10_method_18_code
def yX8_lay : MethodName := ⟨RX8, "lay", "(I)V"⟩
abbrev cX8_lays : ByteArray := prog_10_method_19_code
def yX8_lays : MethodName := ⟨RX8, "lays", "(I)I"⟩
abbrev cX8_ended : ByteArray := prog_10_method_20_code
def yX8_ended : MethodName := ⟨RX8, "ended", "()Z"⟩
abbrev cX8_lives : ByteArray := prog_10_method_21_code
def yX8_lives : MethodName := ⟨RX8, "lives", "()I"⟩
abbrev cX8_now : ByteArray := prog_10_method_22_code
def yX8_now : MethodName := ⟨RX8, "now", "(I)I"⟩
abbrev cX8_beside : ByteArray := prog_10_method_23_code
def yX8_beside : MethodName := ⟨RX8, "beside", "(II)I"⟩
abbrev cX8_end : ByteArray := prog_10_method_24_code
def yX8_end : MethodName := ⟨RX8, "end", "(I)V"⟩
abbrev cX8_into : ByteArray := prog_10_method_25_code
def yX8_into : MethodName := ⟨RX8, "into", "(I)V"⟩
abbrev cX8_step : ByteArray := prog_10_method_26_code
def yX8_step : MethodName := ⟨RX8, "step", "()V"⟩
abbrev cX8_run : ByteArray := prog_10_method_27_code
def yX8_run : MethodName := ⟨RX8, "run", "(I)I"⟩
abbrev cX8_mayTurn : ByteArray := prog_10_method_28_code
def yX8_mayTurn : MethodName := ⟨RX8, "mayTurn", "(I)Z"⟩
abbrev cX8_through : ByteArray := prog_10_method_29_code
def yX8_through : MethodName := ⟨RX8, "through", "(I)Z"⟩
abbrev cX8_head : ByteArray := prog_10_method_30_code
def yX8_head : MethodName := ⟨RX8, "head", "(I)I"⟩
abbrev cX8_wears : ByteArray := prog_10_method_31_code
def yX8_wears : MethodName := ⟨RX8, "wears", "(I)V"⟩
abbrev cX8_wear : ByteArray := prog_10_method_32_code
def yX8_wear : MethodName := ⟨RX8, "wear", "(I)I"⟩
abbrev cX8_haul : ByteArray := prog_10_method_33_code
def yX8_haul : MethodName := ⟨RX8, "haul", "(I)I"⟩
abbrev cX8_sail : ByteArray := prog_10_method_34_code
def yX8_sail : MethodName := ⟨RX8, "sail", "(I)I"⟩
abbrev cX8_mayAnchor : ByteArray := prog_10_method_35_code
def yX8_mayAnchor : MethodName := ⟨RX8, "mayAnchor", "()Z"⟩
abbrev cX8_anchor : ByteArray := prog_10_method_36_code
def yX8_anchor : MethodName := ⟨RX8, "anchor", "()I"⟩
abbrev cX8_cut : ByteArray := prog_10_method_37_code
def yX8_cut : MethodName := ⟨RX8, "cut", "()I"⟩
abbrev cX8_axe : ByteArray := prog_10_method_38_code
def yX8_axe : MethodName := ⟨RX8, "axe", "()I"⟩
abbrev cX8_over : ByteArray := prog_10_method_39_code
def yX8_over : MethodName := ⟨RX8, "over", "()I"⟩
abbrev cX8_keep : ByteArray := prog_10_method_40_code
def yX8_keep : MethodName := ⟨RX8, "keep", "()V"⟩
abbrev cX8_again : ByteArray := prog_10_method_41_code
def yX8_again : MethodName := ⟨RX8, "again", "()V"⟩
abbrev cX8_moves : ByteArray := prog_10_method_42_code
def yX8_moves : MethodName := ⟨RX8, "moves", "(I)I"⟩
abbrev cX8_still : ByteArray := prog_10_method_43_code
def yX8_still : MethodName := ⟨RX8, "still", "(I)I"⟩
abbrev cX8_clears : ByteArray := prog_10_method_44_code
def yX8_clears : MethodName := ⟨RX8, "clears", "()I"⟩
abbrev cX8_line : ByteArray := prog_10_method_45_code
def yX8_line : MethodName := ⟨RX8, "line", "()I"⟩
abbrev cX8_tensLeft : ByteArray := prog_10_method_46_code
def yX8_tensLeft : MethodName := ⟨RX8, "tensLeft", "()I"⟩
abbrev cX8_lighter : ByteArray := prog_10_method_47_code
def yX8_lighter : MethodName := ⟨RX8, "lighter", "()I"⟩
abbrev cX8_holds : ByteArray := prog_10_method_48_code
def yX8_holds : MethodName := ⟨RX8, "holds", "(III)I"⟩
abbrev cX8_beachBest : ByteArray := prog_10_method_49_code
def yX8_beachBest : MethodName := ⟨RX8, "beachBest", "()I"⟩
abbrev cX8_act : ByteArray := prog_10_method_50_code
def yX8_act : MethodName := ⟨RX8, "act", "(I)V"⟩
abbrev cX8_plan : ByteArray := prog_10_method_51_code
def yX8_plan : MethodName := ⟨RX8, "plan", "(II)I"⟩
abbrev cX8_stood : ByteArray := prog_10_method_52_code
def yX8_stood : MethodName := ⟨RX8, "stood", "(II)I"⟩
abbrev cX8_worth : ByteArray := prog_10_method_53_code
def yX8_worth : MethodName := ⟨RX8, "worth", "(II)I"⟩
abbrev cX8_light : ByteArray := prog_10_method_54_code
def yX8_light : MethodName := ⟨RX8, "light", "()I"⟩
abbrev cX8_draw : ByteArray := prog_10_method_55_code
def yX8_draw : MethodName := ⟨RX8, "draw", "(I)I"⟩
abbrev cX8_night : ByteArray := prog_10_method_56_code
def yX8_night : MethodName := ⟨RX8, "night", "(II)I"⟩
abbrev cX8_log : ByteArray := prog_10_method_57_code
def yX8_log : MethodName := ⟨RX8, "log", "(I)I"⟩
abbrev cX8_judge : ByteArray := prog_10_method_58_code
def yX8_judge : MethodName := ⟨RX8, "judge", "()I"⟩
abbrev cX8_image : ByteArray := prog_10_method_59_code
def yX8_image : MethodName := ⟨RX8, "image", "()I"⟩
abbrev cX8_on : ByteArray := prog_10_method_60_code
def yX8_on : MethodName := ⟨RX8, "on", "()I"⟩
abbrev cX8_count : ByteArray := prog_10_method_61_code
def yX8_count : MethodName := ⟨RX8, "count", "(I)I"⟩
def RJ9 : String := "java/lang/Math"
def TJ9 : u_T := fun k => match k with
  | _ => ("", "", "", false)
def tyJ9 : Nat → FieldType := fun k => match k with
  | _ => .int
theorem nmJ9 : ∀ a, a < 0 → ∀ b, b < 0 → a ≠ b → (TJ9 a).2.1 ≠ (TJ9 b).2.1 := by decide +kernel
theorem tyJ9_ok : ∀ k, k < 0 → parseFieldDescriptor (TJ9 k).2.2.1 = some (tyJ9 k) := by decide +kernel
abbrev cJ9_max_7cf53 : ByteArray := prog_11_method_65_code
def yJ9_max_7cf53 : MethodName := ⟨RJ9, "max", "(II)I"⟩
abbrev cJ9_min_7cf53 : ByteArray := prog_11_method_69_code
def yJ9_min_7cf53 : MethodName := ⟨RJ9, "min", "(II)I"⟩
def RL : String := "EmbayedLaw"
abbrev cL_law : ByteArray := code
def yL_law : MethodName := ⟨RL, "law", "([I)Z"⟩
abbrev vwCl : List vw_C := [(RX0, TX0, 3), (RX1, TX1, 3), (RX2, TX2, 1), (RX3, TX3, 2), (RX4, TX4, 2), (RX5, TX5, 17), (RX6, TX6, 10), (RX7, TX7, 10), (RX8, TX8, 37)]
