section
-- ===== PART A: goes FIRST, ahead of the names: the tables' words, and 'selects' of the private methods out of them =====
/-- a private method of a class that the tables say can be made, by its rows of tables_1 -/
def lw_okq (q : MethodName × Nat) : Prop := (q.1.cls ≠ "java/lang/invoke/MethodHandle" ∧ q.1.cls ≠ "java/lang/invoke/VarHandle") ∧ Cond.instantiable q.1.cls q.2 ∈ tables_1 ∧ Cond.privateMethod q.1 ∈ tables_1 ∧ Cond.instanceMethod q.1 ∈ tables_1
theorem lw_p0 : lw_okq (⟨"TalliedWindows$Reader", "takeFirstSign", "(I)I"⟩, 6) := ⟨⟨by decide +kernel, by decide +kernel⟩, List.mem_of_getElem? (i := 218) (by decide +kernel), List.mem_of_getElem? (i := 260) (by decide +kernel), List.mem_of_getElem? (i := 261) (by decide +kernel)⟩
theorem lw_p1 : lw_okq (⟨"TalliedWindows$Reader", "takeSecondSign", "(I)I"⟩, 6) := ⟨⟨by decide +kernel, by decide +kernel⟩, List.mem_of_getElem? (i := 218) (by decide +kernel), List.mem_of_getElem? (i := 264) (by decide +kernel), List.mem_of_getElem? (i := 265) (by decide +kernel)⟩
theorem lw_p2 : lw_okq (⟨"TalliedWindows$Window", "countRow", "(LTalliedWindows$Picture;LTalliedWindows$Filter;III)V"⟩, 3) := ⟨⟨by decide +kernel, by decide +kernel⟩, List.mem_of_getElem? (i := 147) (by decide +kernel), List.mem_of_getElem? (i := 435) (by decide +kernel), List.mem_of_getElem? (i := 436) (by decide +kernel)⟩
theorem lw_p3 : lw_okq (⟨"TalliedWindows$Window", "count", "(II)V"⟩, 3) := ⟨⟨by decide +kernel, by decide +kernel⟩, List.mem_of_getElem? (i := 147) (by decide +kernel), List.mem_of_getElem? (i := 439) (by decide +kernel), List.mem_of_getElem? (i := 440) (by decide +kernel)⟩
theorem lw_p4 : lw_okq (⟨"TalliedWindows", "lastOf", "(LTalliedWindows$Filter;II)I"⟩, 10) := ⟨⟨by decide +kernel, by decide +kernel⟩, List.mem_of_getElem? (i := 15) (by decide +kernel), List.mem_of_getElem? (i := 462) (by decide +kernel), List.mem_of_getElem? (i := 463) (by decide +kernel)⟩
theorem lw_p5 : lw_okq (⟨"TalliedWindows", "apply", "(LTalliedWindows$Filter;)I"⟩, 10) := ⟨⟨by decide +kernel, by decide +kernel⟩, List.mem_of_getElem? (i := 15) (by decide +kernel), List.mem_of_getElem? (i := 504) (by decide +kernel), List.mem_of_getElem? (i := 505) (by decide +kernel)⟩
theorem lw_p6 : lw_okq (⟨"TalliedWindows$State", "draw", "(I)I"⟩, 4) := ⟨⟨by decide +kernel, by decide +kernel⟩, List.mem_of_getElem? (i := 41) (by decide +kernel), List.mem_of_getElem? (i := 528) (by decide +kernel), List.mem_of_getElem? (i := 529) (by decide +kernel)⟩
theorem lw_p7 : lw_okq (⟨"TalliedWindowsModel", "readText", "()I"⟩, 23) := ⟨⟨by decide +kernel, by decide +kernel⟩, List.mem_of_getElem? (i := 592) (by decide +kernel), List.mem_of_getElem? (i := 682) (by decide +kernel), List.mem_of_getElem? (i := 683) (by decide +kernel)⟩
theorem lw_p8 : lw_okq (⟨"TalliedWindowsModel", "faultOf", "(I)I"⟩, 23) := ⟨⟨by decide +kernel, by decide +kernel⟩, List.mem_of_getElem? (i := 592) (by decide +kernel), List.mem_of_getElem? (i := 686) (by decide +kernel), List.mem_of_getElem? (i := 687) (by decide +kernel)⟩
theorem lw_p9 : lw_okq (⟨"TalliedWindowsModel", "faultOfBreak", "()I"⟩, 23) := ⟨⟨by decide +kernel, by decide +kernel⟩, List.mem_of_getElem? (i := 592) (by decide +kernel), List.mem_of_getElem? (i := 690) (by decide +kernel), List.mem_of_getElem? (i := 691) (by decide +kernel)⟩
theorem lw_p10 : lw_okq (⟨"TalliedWindowsModel", "isShort", "()Z"⟩, 23) := ⟨⟨by decide +kernel, by decide +kernel⟩, List.mem_of_getElem? (i := 592) (by decide +kernel), List.mem_of_getElem? (i := 694) (by decide +kernel), List.mem_of_getElem? (i := 695) (by decide +kernel)⟩
theorem lw_p11 : lw_okq (⟨"TalliedWindowsModel", "goOn", "(I)V"⟩, 23) := ⟨⟨by decide +kernel, by decide +kernel⟩, List.mem_of_getElem? (i := 592) (by decide +kernel), List.mem_of_getElem? (i := 705) (by decide +kernel), List.mem_of_getElem? (i := 706) (by decide +kernel)⟩
theorem lw_p12 : lw_okq (⟨"TalliedWindowsModel", "remember", "()V"⟩, 23) := ⟨⟨by decide +kernel, by decide +kernel⟩, List.mem_of_getElem? (i := 592) (by decide +kernel), List.mem_of_getElem? (i := 709) (by decide +kernel), List.mem_of_getElem? (i := 710) (by decide +kernel)⟩
theorem lw_p13 : lw_okq (⟨"TalliedWindowsModel", "copyRow", "(II)V"⟩, 23) := ⟨⟨by decide +kernel, by decide +kernel⟩, List.mem_of_getElem? (i := 592) (by decide +kernel), List.mem_of_getElem? (i := 713) (by decide +kernel), List.mem_of_getElem? (i := 714) (by decide +kernel)⟩
theorem lw_p14 : lw_okq (⟨"TalliedWindowsModel", "layPicture", "()V"⟩, 23) := ⟨⟨by decide +kernel, by decide +kernel⟩, List.mem_of_getElem? (i := 592) (by decide +kernel), List.mem_of_getElem? (i := 717) (by decide +kernel), List.mem_of_getElem? (i := 718) (by decide +kernel)⟩
theorem lw_p15 : lw_okq (⟨"TalliedWindowsModel", "place", "(II)I"⟩, 23) := ⟨⟨by decide +kernel, by decide +kernel⟩, List.mem_of_getElem? (i := 592) (by decide +kernel), List.mem_of_getElem? (i := 721) (by decide +kernel), List.mem_of_getElem? (i := 722) (by decide +kernel)⟩
def lw_privs_1 : List (MethodName × Nat) := [(⟨"TalliedWindows$Reader", "takeFirstSign", "(I)I"⟩, 6), (⟨"TalliedWindows$Reader", "takeSecondSign", "(I)I"⟩, 6), (⟨"TalliedWindows$Window", "countRow", "(LTalliedWindows$Picture;LTalliedWindows$Filter;III)V"⟩, 3), (⟨"TalliedWindows$Window", "count", "(II)V"⟩, 3), (⟨"TalliedWindows", "lastOf", "(LTalliedWindows$Filter;II)I"⟩, 10), (⟨"TalliedWindows", "apply", "(LTalliedWindows$Filter;)I"⟩, 10), (⟨"TalliedWindows$State", "draw", "(I)I"⟩, 4), (⟨"TalliedWindowsModel", "readText", "()I"⟩, 23), (⟨"TalliedWindowsModel", "faultOf", "(I)I"⟩, 23), (⟨"TalliedWindowsModel", "faultOfBreak", "()I"⟩, 23), (⟨"TalliedWindowsModel", "isShort", "()Z"⟩, 23), (⟨"TalliedWindowsModel", "goOn", "(I)V"⟩, 23), (⟨"TalliedWindowsModel", "remember", "()V"⟩, 23), (⟨"TalliedWindowsModel", "copyRow", "(II)V"⟩, 23), (⟨"TalliedWindowsModel", "layPicture", "()V"⟩, 23), (⟨"TalliedWindowsModel", "place", "(II)I"⟩, 23)]
theorem lw_r1 : ∀ q ∈ lw_privs_1, lw_okq q := List.forall_mem_cons.mpr ⟨lw_p0, List.forall_mem_cons.mpr ⟨lw_p1, List.forall_mem_cons.mpr ⟨lw_p2, List.forall_mem_cons.mpr ⟨lw_p3, List.forall_mem_cons.mpr ⟨lw_p4, List.forall_mem_cons.mpr ⟨lw_p5, List.forall_mem_cons.mpr ⟨lw_p6, List.forall_mem_cons.mpr ⟨lw_p7, List.forall_mem_cons.mpr ⟨lw_p8, List.forall_mem_cons.mpr ⟨lw_p9, List.forall_mem_cons.mpr ⟨lw_p10, List.forall_mem_cons.mpr ⟨lw_p11, List.forall_mem_cons.mpr ⟨lw_p12, List.forall_mem_cons.mpr ⟨lw_p13, List.forall_mem_cons.mpr ⟨lw_p14, List.forall_mem_cons.mpr ⟨lw_p15, fun _ h => absurd h List.not_mem_nil⟩⟩⟩⟩⟩⟩⟩⟩⟩⟩⟩⟩⟩⟩⟩⟩
theorem lw_p16 : lw_okq (⟨"TalliedWindowsModel", "masked", "()I"⟩, 23) := ⟨⟨by decide +kernel, by decide +kernel⟩, List.mem_of_getElem? (i := 592) (by decide +kernel), List.mem_of_getElem? (i := 733) (by decide +kernel), List.mem_of_getElem? (i := 734) (by decide +kernel)⟩
theorem lw_p17 : lw_okq (⟨"TalliedWindowsModel", "isMasked", "(II)Z"⟩, 23) := ⟨⟨by decide +kernel, by decide +kernel⟩, List.mem_of_getElem? (i := 592) (by decide +kernel), List.mem_of_getElem? (i := 737) (by decide +kernel), List.mem_of_getElem? (i := 738) (by decide +kernel)⟩
theorem lw_p18 : lw_okq (⟨"TalliedWindowsModel", "ofGreys", "(I)I"⟩, 23) := ⟨⟨by decide +kernel, by decide +kernel⟩, List.mem_of_getElem? (i := 592) (by decide +kernel), List.mem_of_getElem? (i := 741) (by decide +kernel), List.mem_of_getElem? (i := 742) (by decide +kernel)⟩
theorem lw_p19 : lw_okq (⟨"TalliedWindowsModel", "grey", "(II)I"⟩, 23) := ⟨⟨by decide +kernel, by decide +kernel⟩, List.mem_of_getElem? (i := 592) (by decide +kernel), List.mem_of_getElem? (i := 745) (by decide +kernel), List.mem_of_getElem? (i := 746) (by decide +kernel)⟩
theorem lw_p20 : lw_okq (⟨"TalliedWindowsModel", "wrong", "()I"⟩, 23) := ⟨⟨by decide +kernel, by decide +kernel⟩, List.mem_of_getElem? (i := 592) (by decide +kernel), List.mem_of_getElem? (i := 749) (by decide +kernel), List.mem_of_getElem? (i := 750) (by decide +kernel)⟩
theorem lw_p21 : lw_okq (⟨"TalliedWindowsModel", "isDot", "(II)Z"⟩, 23) := ⟨⟨by decide +kernel, by decide +kernel⟩, List.mem_of_getElem? (i := 592) (by decide +kernel), List.mem_of_getElem? (i := 753) (by decide +kernel), List.mem_of_getElem? (i := 754) (by decide +kernel)⟩
theorem lw_p22 : lw_okq (⟨"TalliedWindowsModel", "isFilter", "(I)Z"⟩, 23) := ⟨⟨by decide +kernel, by decide +kernel⟩, List.mem_of_getElem? (i := 592) (by decide +kernel), List.mem_of_getElem? (i := 779) (by decide +kernel), List.mem_of_getElem? (i := 780) (by decide +kernel)⟩
theorem lw_p23 : lw_okq (⟨"TalliedWindowsModel", "lastOf", "(III)I"⟩, 23) := ⟨⟨by decide +kernel, by decide +kernel⟩, List.mem_of_getElem? (i := 592) (by decide +kernel), List.mem_of_getElem? (i := 791) (by decide +kernel), List.mem_of_getElem? (i := 792) (by decide +kernel)⟩
theorem lw_p24 : lw_okq (⟨"TalliedWindowsModel", "layWindow", "(III)V"⟩, 23) := ⟨⟨by decide +kernel, by decide +kernel⟩, List.mem_of_getElem? (i := 592) (by decide +kernel), List.mem_of_getElem? (i := 795) (by decide +kernel), List.mem_of_getElem? (i := 796) (by decide +kernel)⟩
theorem lw_p25 : lw_okq (⟨"TalliedWindowsModel", "part", "(II)I"⟩, 23) := ⟨⟨by decide +kernel, by decide +kernel⟩, List.mem_of_getElem? (i := 592) (by decide +kernel), List.mem_of_getElem? (i := 799) (by decide +kernel), List.mem_of_getElem? (i := 800) (by decide +kernel)⟩
theorem lw_p26 : lw_okq (⟨"TalliedWindowsModel", "countAt", "(IIIZ)V"⟩, 23) := ⟨⟨by decide +kernel, by decide +kernel⟩, List.mem_of_getElem? (i := 592) (by decide +kernel), List.mem_of_getElem? (i := 803) (by decide +kernel), List.mem_of_getElem? (i := 804) (by decide +kernel)⟩
theorem lw_p27 : lw_okq (⟨"TalliedWindowsModel", "countOut", "(III)V"⟩, 23) := ⟨⟨by decide +kernel, by decide +kernel⟩, List.mem_of_getElem? (i := 592) (by decide +kernel), List.mem_of_getElem? (i := 807) (by decide +kernel), List.mem_of_getElem? (i := 808) (by decide +kernel)⟩
theorem lw_p28 : lw_okq (⟨"TalliedWindowsModel", "count", "(I)V"⟩, 23) := ⟨⟨by decide +kernel, by decide +kernel⟩, List.mem_of_getElem? (i := 592) (by decide +kernel), List.mem_of_getElem? (i := 811) (by decide +kernel), List.mem_of_getElem? (i := 812) (by decide +kernel)⟩
theorem lw_p29 : lw_okq (⟨"TalliedWindowsModel", "below", "(I)I"⟩, 23) := ⟨⟨by decide +kernel, by decide +kernel⟩, List.mem_of_getElem? (i := 592) (by decide +kernel), List.mem_of_getElem? (i := 821) (by decide +kernel), List.mem_of_getElem? (i := 822) (by decide +kernel)⟩
theorem lw_p30 : lw_okq (⟨"TalliedWindowsModel", "setGrey", "(III)V"⟩, 23) := ⟨⟨by decide +kernel, by decide +kernel⟩, List.mem_of_getElem? (i := 592) (by decide +kernel), List.mem_of_getElem? (i := 837) (by decide +kernel), List.mem_of_getElem? (i := 838) (by decide +kernel)⟩
theorem lw_p31 : lw_okq (⟨"TalliedWindowsModel", "turnedFrom", "(III)I"⟩, 23) := ⟨⟨by decide +kernel, by decide +kernel⟩, List.mem_of_getElem? (i := 592) (by decide +kernel), List.mem_of_getElem? (i := 851) (by decide +kernel), List.mem_of_getElem? (i := 852) (by decide +kernel)⟩
def lw_privs_2 : List (MethodName × Nat) := [(⟨"TalliedWindowsModel", "masked", "()I"⟩, 23), (⟨"TalliedWindowsModel", "isMasked", "(II)Z"⟩, 23), (⟨"TalliedWindowsModel", "ofGreys", "(I)I"⟩, 23), (⟨"TalliedWindowsModel", "grey", "(II)I"⟩, 23), (⟨"TalliedWindowsModel", "wrong", "()I"⟩, 23), (⟨"TalliedWindowsModel", "isDot", "(II)Z"⟩, 23), (⟨"TalliedWindowsModel", "isFilter", "(I)Z"⟩, 23), (⟨"TalliedWindowsModel", "lastOf", "(III)I"⟩, 23), (⟨"TalliedWindowsModel", "layWindow", "(III)V"⟩, 23), (⟨"TalliedWindowsModel", "part", "(II)I"⟩, 23), (⟨"TalliedWindowsModel", "countAt", "(IIIZ)V"⟩, 23), (⟨"TalliedWindowsModel", "countOut", "(III)V"⟩, 23), (⟨"TalliedWindowsModel", "count", "(I)V"⟩, 23), (⟨"TalliedWindowsModel", "below", "(I)I"⟩, 23), (⟨"TalliedWindowsModel", "setGrey", "(III)V"⟩, 23), (⟨"TalliedWindowsModel", "turnedFrom", "(III)I"⟩, 23)]
theorem lw_r2 : ∀ q ∈ lw_privs_2, lw_okq q := List.forall_mem_cons.mpr ⟨lw_p16, List.forall_mem_cons.mpr ⟨lw_p17, List.forall_mem_cons.mpr ⟨lw_p18, List.forall_mem_cons.mpr ⟨lw_p19, List.forall_mem_cons.mpr ⟨lw_p20, List.forall_mem_cons.mpr ⟨lw_p21, List.forall_mem_cons.mpr ⟨lw_p22, List.forall_mem_cons.mpr ⟨lw_p23, List.forall_mem_cons.mpr ⟨lw_p24, List.forall_mem_cons.mpr ⟨lw_p25, List.forall_mem_cons.mpr ⟨lw_p26, List.forall_mem_cons.mpr ⟨lw_p27, List.forall_mem_cons.mpr ⟨lw_p28, List.forall_mem_cons.mpr ⟨lw_p29, List.forall_mem_cons.mpr ⟨lw_p30, List.forall_mem_cons.mpr ⟨lw_p31, fun _ h => absurd h List.not_mem_nil⟩⟩⟩⟩⟩⟩⟩⟩⟩⟩⟩⟩⟩⟩⟩⟩
theorem lw_p32 : lw_okq (⟨"TalliedWindowsModel", "applyNow", "(I)I"⟩, 23) := ⟨⟨by decide +kernel, by decide +kernel⟩, List.mem_of_getElem? (i := 592) (by decide +kernel), List.mem_of_getElem? (i := 859) (by decide +kernel), List.mem_of_getElem? (i := 860) (by decide +kernel)⟩
theorem lw_p33 : lw_okq (⟨"TalliedWindowsModel", "draw", "(I)I"⟩, 23) := ⟨⟨by decide +kernel, by decide +kernel⟩, List.mem_of_getElem? (i := 592) (by decide +kernel), List.mem_of_getElem? (i := 877) (by decide +kernel), List.mem_of_getElem? (i := 878) (by decide +kernel)⟩
theorem lw_p34 : lw_okq (⟨"TalliedWindowsModel", "isKept", "(I)Z"⟩, 23) := ⟨⟨by decide +kernel, by decide +kernel⟩, List.mem_of_getElem? (i := 592) (by decide +kernel), List.mem_of_getElem? (i := 910) (by decide +kernel), List.mem_of_getElem? (i := 911) (by decide +kernel)⟩
def lw_privs_3 : List (MethodName × Nat) := [(⟨"TalliedWindowsModel", "applyNow", "(I)I"⟩, 23), (⟨"TalliedWindowsModel", "draw", "(I)I"⟩, 23), (⟨"TalliedWindowsModel", "isKept", "(I)Z"⟩, 23)]
theorem lw_r3 : ∀ q ∈ lw_privs_3, lw_okq q := List.forall_mem_cons.mpr ⟨lw_p32, List.forall_mem_cons.mpr ⟨lw_p33, List.forall_mem_cons.mpr ⟨lw_p34, fun _ h => absurd h List.not_mem_nil⟩⟩⟩
def lw_privs : List (MethodName × Nat) := lw_privs_1 ++ (lw_privs_2 ++ (lw_privs_3))
def lw_tbl : List Cond := k2_sels lw_privs ++ tables_1
theorem lw_privs_ok : ∀ q ∈ lw_privs, lw_okq q := by
  show ∀ q ∈ lw_privs_1 ++ (lw_privs_2 ++ (lw_privs_3)), lw_okq q
  exact List.forall_mem_append.mpr ⟨lw_r1, List.forall_mem_append.mpr ⟨lw_r2, lw_r3⟩⟩
end
section
def RX0 : String := "TalliedWindows$Book"
def TX0 : u_T := fun k => match k with
  | 0 => ("TalliedWindows$Book", "count", "I", false)
  | 1 => ("TalliedWindows$Book", "xs", "[I", true)
  | 2 => ("TalliedWindows$Book", "ys", "[I", true)
  | _ => ("TalliedWindows$Book", "greys", "[I", true)
def tyX0 : Nat → FieldType := fun k => match k with
  | 0 => .int
  | 1 => .array .int
  | 2 => .array .int
  | _ => .array .int
abbrev wsX00 : List Cond := u_ws RX0 TX0 4
theorem nmX0 : ∀ a, a < 4 → ∀ b, b < 4 → a ≠ b → (TX0 a).2.1 ≠ (TX0 b).2.1 := by decide +kernel
theorem tyX0_ok : ∀ k, k < 4 → parseFieldDescriptor (TX0 k).2.2.1 = some (tyX0 k) := by decide +kernel
abbrev cX0_init : ByteArray := prog_2_method_1_code
def yX0_init : MethodName := ⟨RX0, "<init>", "()V"⟩
abbrev cX0_add : ByteArray := prog_2_method_2_code
def yX0_add : MethodName := ⟨RX0, "add", "(III)I"⟩
abbrev cX0_firstWrong : ByteArray := prog_2_method_3_code
def yX0_firstWrong : MethodName := ⟨RX0, "firstWrong", "(LTalliedWindows$Picture;)I"⟩
def RX1 : String := "TalliedWindows$Filter"
def TX1 : u_T := fun k => match k with
  | 0 => ("TalliedWindows$Filter", "across", "I", true)
  | 1 => ("TalliedWindows$Filter", "down", "I", true)
  | 2 => ("TalliedWindows$Filter", "rank", "I", true)
  | 3 => ("TalliedWindows$Filter", "border", "I", true)
  | _ => ("TalliedWindows$Filter", "weight", "I", true)
def tyX1 : Nat → FieldType := fun k => match k with
  | 0 => .int
  | 1 => .int
  | 2 => .int
  | 3 => .int
  | _ => .int
abbrev wsX10 : List Cond := u_ws RX1 TX1 5
theorem nmX1 : ∀ a, a < 5 → ∀ b, b < 5 → a ≠ b → (TX1 a).2.1 ≠ (TX1 b).2.1 := by decide +kernel
theorem tyX1_ok : ∀ k, k < 5 → parseFieldDescriptor (TX1 k).2.2.1 = some (tyX1 k) := by decide +kernel
abbrev cX1_init : ByteArray := prog_3_method_1_code
def yX1_init : MethodName := ⟨RX1, "<init>", "(IIIII)V"⟩
def RX2 : String := "TalliedWindows$Filters"
def TX2 : u_T := fun k => match k with
  | 0 => ("TalliedWindows$Filters", "count", "I", false)
  | _ => ("TalliedWindows$Filters", "inOrder", "[LTalliedWindows$Filter;", true)
def tyX2 : Nat → FieldType := fun k => match k with
  | 0 => .int
  | _ => .array (.object "TalliedWindows$Filter")
abbrev wsX20 : List Cond := u_ws RX2 TX2 2
theorem nmX2 : ∀ a, a < 2 → ∀ b, b < 2 → a ≠ b → (TX2 a).2.1 ≠ (TX2 b).2.1 := by decide +kernel
theorem tyX2_ok : ∀ k, k < 2 → parseFieldDescriptor (TX2 k).2.2.1 = some (tyX2 k) := by decide +kernel
abbrev cX2_init : ByteArray := prog_4_method_1_code
def yX2_init : MethodName := ⟨RX2, "<init>", "()V"⟩
abbrev cX2_isFull : ByteArray := prog_4_method_2_code
def yX2_isFull : MethodName := ⟨RX2, "isFull", "()Z"⟩
abbrev cX2_numbered : ByteArray := prog_4_method_3_code
def yX2_numbered : MethodName := ⟨RX2, "numbered", "(I)LTalliedWindows$Filter;"⟩
abbrev cX2_add : ByteArray := prog_4_method_4_code
def yX2_add : MethodName := ⟨RX2, "add", "(LTalliedWindows$Filter;)I"⟩
abbrev cX2_remove : ByteArray := prog_4_method_5_code
def yX2_remove : MethodName := ⟨RX2, "remove", "(I)I"⟩
abbrev cX2_become : ByteArray := prog_4_method_6_code
def yX2_become : MethodName := ⟨RX2, "become", "(LTalliedWindows$Filters;)V"⟩
def RX3 : String := "TalliedWindows$History"
def TX3 : u_T := fun k => match k with
  | 0 => ("TalliedWindows$History", "count", "I", false)
  | 1 => ("TalliedWindows$History", "oldest", "I", false)
  | _ => ("TalliedWindows$History", "ring", "[LTalliedWindows$Picture;", true)
def tyX3 : Nat → FieldType := fun k => match k with
  | 0 => .int
  | 1 => .int
  | _ => .array (.object "TalliedWindows$Picture")
abbrev wsX30 : List Cond := u_ws RX3 TX3 3
theorem nmX3 : ∀ a, a < 3 → ∀ b, b < 3 → a ≠ b → (TX3 a).2.1 ≠ (TX3 b).2.1 := by decide +kernel
theorem tyX3_ok : ∀ k, k < 3 → parseFieldDescriptor (TX3 k).2.2.1 = some (tyX3 k) := by decide +kernel
abbrev cX3_init : ByteArray := prog_5_method_1_code
def yX3_init : MethodName := ⟨RX3, "<init>", "()V"⟩
abbrev cX3_remember : ByteArray := prog_5_method_2_code
def yX3_remember : MethodName := ⟨RX3, "remember", "(LTalliedWindows$Picture;)V"⟩
abbrev cX3_takeBack : ByteArray := prog_5_method_3_code
def yX3_takeBack : MethodName := ⟨RX3, "takeBack", "(ILTalliedWindows$Picture;)V"⟩
abbrev cX3_forget : ByteArray := prog_5_method_4_code
def yX3_forget : MethodName := ⟨RX3, "forget", "()V"⟩
def RX4 : String := "TalliedWindows$Picture"
def TX4 : u_T := fun k => match k with
  | 0 => ("TalliedWindows$Picture", "width", "I", false)
  | 1 => ("TalliedWindows$Picture", "height", "I", false)
  | 2 => ("TalliedWindows$Picture", "greys", "[I", true)
  | _ => ("TalliedWindows$Picture", "masks", "[Z", true)
def tyX4 : Nat → FieldType := fun k => match k with
  | 0 => .int
  | 1 => .int
  | 2 => .array .int
  | _ => .array .boolean
abbrev wsX40 : List Cond := u_ws RX4 TX4 4
theorem nmX4 : ∀ a, a < 4 → ∀ b, b < 4 → a ≠ b → (TX4 a).2.1 ≠ (TX4 b).2.1 := by decide +kernel
theorem tyX4_ok : ∀ k, k < 4 → parseFieldDescriptor (TX4 k).2.2.1 = some (tyX4 k) := by decide +kernel
abbrev cX4_init : ByteArray := prog_6_method_1_code
def yX4_init : MethodName := ⟨RX4, "<init>", "()V"⟩
abbrev cX4_dots : ByteArray := prog_6_method_2_code
def yX4_dots : MethodName := ⟨RX4, "dots", "()I"⟩
abbrev cX4_has : ByteArray := prog_6_method_3_code
def yX4_has : MethodName := ⟨RX4, "has", "(II)Z"⟩
abbrev cX4_greyOf : ByteArray := prog_6_method_4_code
def yX4_greyOf : MethodName := ⟨RX4, "greyOf", "(II)I"⟩
abbrev cX4_isMasked : ByteArray := prog_6_method_5_code
def yX4_isMasked : MethodName := ⟨RX4, "isMasked", "(II)Z"⟩
abbrev cX4_setGrey : ByteArray := prog_6_method_6_code
def yX4_setGrey : MethodName := ⟨RX4, "setGrey", "(III)V"⟩
abbrev cX4_setMasked : ByteArray := prog_6_method_7_code
def yX4_setMasked : MethodName := ⟨RX4, "setMasked", "(IIZ)V"⟩
abbrev cX4_setInOrder : ByteArray := prog_6_method_8_code
def yX4_setInOrder : MethodName := ⟨RX4, "setInOrder", "(IIZ)V"⟩
abbrev cX4_setSize : ByteArray := prog_6_method_9_code
def yX4_setSize : MethodName := ⟨RX4, "setSize", "(II)V"⟩
abbrev cX4_become : ByteArray := prog_6_method_10_code
def yX4_become : MethodName := ⟨RX4, "become", "(LTalliedWindows$Picture;)V"⟩
abbrev cX4_becomeTurned : ByteArray := prog_6_method_11_code
def yX4_becomeTurned : MethodName := ⟨RX4, "becomeTurned", "(LTalliedWindows$Picture;I)V"⟩
abbrev cX4_maskedDots : ByteArray := prog_6_method_12_code
def yX4_maskedDots : MethodName := ⟨RX4, "maskedDots", "()I"⟩
abbrev cX4_leastGrey : ByteArray := prog_6_method_13_code
def yX4_leastGrey : MethodName := ⟨RX4, "leastGrey", "()I"⟩
abbrev cX4_greatestGrey : ByteArray := prog_6_method_14_code
def yX4_greatestGrey : MethodName := ⟨RX4, "greatestGrey", "()I"⟩
abbrev cX4_greysTogether : ByteArray := prog_6_method_15_code
def yX4_greysTogether : MethodName := ⟨RX4, "greysTogether", "()I"⟩
abbrev cX4_dotsUpTo : ByteArray := prog_6_method_16_code
def yX4_dotsUpTo : MethodName := ⟨RX4, "dotsUpTo", "(IIIII)I"⟩
abbrev cX4_greysOtherThan : ByteArray := prog_6_method_17_code
def yX4_greysOtherThan : MethodName := ⟨RX4, "greysOtherThan", "(LTalliedWindows$Picture;)I"⟩
abbrev cX4_dotsOtherThan : ByteArray := prog_6_method_18_code
def yX4_dotsOtherThan : MethodName := ⟨RX4, "dotsOtherThan", "(LTalliedWindows$Picture;)I"⟩
def RX5 : String := "TalliedWindows$Reader"
def TX5 : u_T := fun k => match k with
  | 0 => ("TalliedWindows$Reader", "into", "LTalliedWindows$Picture;", true)
  | 1 => ("TalliedWindows$Reader", "dotsRead", "I", false)
  | 2 => ("TalliedWindows$Reader", "width", "I", false)
  | 3 => ("TalliedWindows$Reader", "row", "I", false)
  | 4 => ("TalliedWindows$Reader", "column", "I", false)
  | _ => ("TalliedWindows$Reader", "firstSign", "I", false)
def tyX5 : Nat → FieldType := fun k => match k with
  | 0 => .object "TalliedWindows$Picture"
  | 1 => .int
  | 2 => .int
  | 3 => .int
  | 4 => .int
  | _ => .int
abbrev wsX50 : List Cond := u_ws RX5 TX5 6
theorem nmX5 : ∀ a, a < 6 → ∀ b, b < 6 → a ≠ b → (TX5 a).2.1 ≠ (TX5 b).2.1 := by decide +kernel
theorem tyX5_ok : ∀ k, k < 6 → parseFieldDescriptor (TX5 k).2.2.1 = some (tyX5 k) := by decide +kernel
abbrev cX5_init : ByteArray := prog_7_method_1_code
def yX5_init : MethodName := ⟨RX5, "<init>", "(LTalliedWindows$Picture;)V"⟩
abbrev cX5_take : ByteArray := prog_7_method_2_code
def yX5_take : MethodName := ⟨RX5, "take", "(I)I"⟩
abbrev cX5_takeRowEnd : ByteArray := prog_7_method_3_code
def yX5_takeRowEnd : MethodName := ⟨RX5, "takeRowEnd", "(Z)I"⟩
abbrev cX5_takeFirstSign : ByteArray := prog_7_method_4_code
def yX5_takeFirstSign : MethodName := ⟨RX5, "takeFirstSign", "(I)I"⟩
abbrev cX5_takeSecondSign : ByteArray := prog_7_method_5_code
def yX5_takeSecondSign : MethodName := ⟨RX5, "takeSecondSign", "(I)I"⟩
abbrev cX5_signOf : ByteArray := prog_7_method_6_code
def yX5_signOf : MethodName := ⟨RX5, "signOf", "(I)I"⟩
def RX6 : String := "TalliedWindows$State"
def TX6 : u_T := fun k => match k with
  | 0 => ("TalliedWindows$State", "picture", "LTalliedWindows$Picture;", true)
  | 1 => ("TalliedWindows$State", "filters", "LTalliedWindows$Filters;", true)
  | 2 => ("TalliedWindows$State", "fillGrey", "I", false)
  | _ => ("TalliedWindows$State", "seed", "I", false)
def tyX6 : Nat → FieldType := fun k => match k with
  | 0 => .object "TalliedWindows$Picture"
  | 1 => .object "TalliedWindows$Filters"
  | 2 => .int
  | _ => .int
abbrev wsX60 : List Cond := u_ws RX6 TX6 4
theorem nmX6 : ∀ a, a < 4 → ∀ b, b < 4 → a ≠ b → (TX6 a).2.1 ≠ (TX6 b).2.1 := by decide +kernel
theorem tyX6_ok : ∀ k, k < 4 → parseFieldDescriptor (TX6 k).2.2.1 = some (tyX6 k) := by decide +kernel
abbrev cX6_init : ByteArray := prog_8_method_1_code
def yX6_init : MethodName := ⟨RX6, "<init>", "()V"⟩
abbrev cX6_become : ByteArray := prog_8_method_2_code
def yX6_become : MethodName := ⟨RX6, "become", "(LTalliedWindows$State;)V"⟩
abbrev cX6_speckle : ByteArray := prog_8_method_3_code
def yX6_speckle : MethodName := ⟨RX6, "speckle", "()V"⟩
abbrev cX6_draw : ByteArray := prog_8_method_4_code
def yX6_draw : MethodName := ⟨RX6, "draw", "(I)I"⟩
def RX7 : String := "TalliedWindows$Text"
def TX7 : u_T := fun k => match k with
  | 0 => ("TalliedWindows$Text", "length", "I", false)
  | 1 => ("TalliedWindows$Text", "letters", "[I", true)
  | _ => ("TalliedWindows$Text", "place", "I", false)
def tyX7 : Nat → FieldType := fun k => match k with
  | 0 => .int
  | 1 => .array .int
  | _ => .int
abbrev wsX70 : List Cond := u_ws RX7 TX7 3
theorem nmX7 : ∀ a, a < 3 → ∀ b, b < 3 → a ≠ b → (TX7 a).2.1 ≠ (TX7 b).2.1 := by decide +kernel
theorem tyX7_ok : ∀ k, k < 3 → parseFieldDescriptor (TX7 k).2.2.1 = some (tyX7 k) := by decide +kernel
abbrev cX7_init : ByteArray := prog_9_method_1_code
def yX7_init : MethodName := ⟨RX7, "<init>", "()V"⟩
abbrev cX7_append : ByteArray := prog_9_method_2_code
def yX7_append : MethodName := ⟨RX7, "append", "(I)I"⟩
abbrev cX7_clear : ByteArray := prog_9_method_3_code
def yX7_clear : MethodName := ⟨RX7, "clear", "()V"⟩
abbrev cX7_placeRead : ByteArray := prog_9_method_4_code
def yX7_placeRead : MethodName := ⟨RX7, "placeRead", "()I"⟩
abbrev cX7_readInto : ByteArray := prog_9_method_5_code
def yX7_readInto : MethodName := ⟨RX7, "readInto", "(LTalliedWindows$Picture;)I"⟩
def RX8 : String := "TalliedWindows$Window"
def TX8 : u_T := fun k => match k with
  | 0 => ("TalliedWindows$Window", "counted", "I", false)
  | 1 => ("TalliedWindows$Window", "coarse", "[I", true)
  | _ => ("TalliedWindows$Window", "fine", "[I", true)
def tyX8 : Nat → FieldType := fun k => match k with
  | 0 => .int
  | 1 => .array .int
  | _ => .array .int
abbrev wsX80 : List Cond := u_ws RX8 TX8 3
theorem nmX8 : ∀ a, a < 3 → ∀ b, b < 3 → a ≠ b → (TX8 a).2.1 ≠ (TX8 b).2.1 := by decide +kernel
theorem tyX8_ok : ∀ k, k < 3 → parseFieldDescriptor (TX8 k).2.2.1 = some (tyX8 k) := by decide +kernel
abbrev cX8_init : ByteArray := prog_10_method_1_code
def yX8_init : MethodName := ⟨RX8, "<init>", "()V"⟩
abbrev cX8_lookAt : ByteArray := prog_10_method_2_code
def yX8_lookAt : MethodName := ⟨RX8, "lookAt", "(LTalliedWindows$Picture;LTalliedWindows$Filter;III)V"⟩
abbrev cX8_ranked : ByteArray := prog_10_method_3_code
def yX8_ranked : MethodName := ⟨RX8, "ranked", "(I)I"⟩
abbrev cX8_countedBelow : ByteArray := prog_10_method_4_code
def yX8_countedBelow : MethodName := ⟨RX8, "countedBelow", "(I)I"⟩
abbrev cX8_spread : ByteArray := prog_10_method_5_code
def yX8_spread : MethodName := ⟨RX8, "spread", "()I"⟩
abbrev cX8_countRow : ByteArray := prog_10_method_6_code
def yX8_countRow : MethodName := ⟨RX8, "countRow", "(LTalliedWindows$Picture;LTalliedWindows$Filter;III)V"⟩
abbrev cX8_count : ByteArray := prog_10_method_7_code
def yX8_count : MethodName := ⟨RX8, "count", "(II)V"⟩
abbrev cX8_standingFor : ByteArray := prog_10_method_8_code
def yX8_standingFor : MethodName := ⟨RX8, "standingFor", "(III)I"⟩
def RX9 : String := "TalliedWindows"
def TX9 : u_T := fun k => match k with
  | 0 => ("TalliedWindows", "text", "LTalliedWindows$Text;", true)
  | 1 => ("TalliedWindows", "now", "LTalliedWindows$State;", true)
  | 2 => ("TalliedWindows", "images", "[LTalliedWindows$State;", true)
  | 3 => ("TalliedWindows", "wasKept", "[Z", true)
  | 4 => ("TalliedWindows", "history", "LTalliedWindows$History;", true)
  | 5 => ("TalliedWindows", "book", "LTalliedWindows$Book;", true)
  | 6 => ("TalliedWindows", "window", "LTalliedWindows$Window;", true)
  | 7 => ("TalliedWindows", "spare", "LTalliedWindows$Picture;", true)
  | 8 => ("TalliedWindows", "ahead", "LTalliedWindows$Picture;", true)
  | _ => ("TalliedWindows", "faultPlace", "I", false)
def tyX9 : Nat → FieldType := fun k => match k with
  | 0 => .object "TalliedWindows$Text"
  | 1 => .object "TalliedWindows$State"
  | 2 => .array (.object "TalliedWindows$State")
  | 3 => .array .boolean
  | 4 => .object "TalliedWindows$History"
  | 5 => .object "TalliedWindows$Book"
  | 6 => .object "TalliedWindows$Window"
  | 7 => .object "TalliedWindows$Picture"
  | 8 => .object "TalliedWindows$Picture"
  | _ => .int
abbrev wsX90 : List Cond := u_ws RX9 TX9 10
theorem nmX9 : ∀ a, a < 10 → ∀ b, b < 10 → a ≠ b → (TX9 a).2.1 ≠ (TX9 b).2.1 := by decide +kernel
theorem tyX9_ok : ∀ k, k < 10 → parseFieldDescriptor (TX9 k).2.2.1 = some (tyX9 k) := by decide +kernel
abbrev cX9_init : ByteArray := prog_1_method_1_code
def yX9_init : MethodName := ⟨RX9, "<init>", "()V"⟩
abbrev cX9_feed : ByteArray := prog_1_method_2_code
def yX9_feed : MethodName := ⟨RX9, "feed", "(I)I"⟩
abbrev cX9_picture : ByteArray := prog_1_method_3_code
def yX9_picture : MethodName := ⟨RX9, "picture", "()I"⟩
abbrev cX9_fault : ByteArray := prog_1_method_4_code
def yX9_fault : MethodName := ⟨RX9, "fault", "()I"⟩
abbrev cX9_told : ByteArray := prog_1_method_5_code
def yX9_told : MethodName := ⟨RX9, "told", "(I)I"⟩
abbrev cX9_at : ByteArray := prog_1_method_6_code
def yX9_at : MethodName := ⟨RX9, "at", "(III)I"⟩
abbrev cX9_tally : ByteArray := prog_1_method_7_code
def yX9_tally : MethodName := ⟨RX9, "tally", "(IIIII)I"⟩
abbrev cX9_filter : ByteArray := prog_1_method_8_code
def yX9_filter : MethodName := ⟨RX9, "filter", "(IIIII)I"⟩
abbrev cX9_drop : ByteArray := prog_1_method_9_code
def yX9_drop : MethodName := ⟨RX9, "drop", "(I)I"⟩
abbrev cX9_fill : ByteArray := prog_1_method_10_code
def yX9_fill : MethodName := ⟨RX9, "fill", "(I)I"⟩
abbrev cX9_would : ByteArray := prog_1_method_11_code
def yX9_would : MethodName := ⟨RX9, "would", "(IIII)I"⟩
abbrev cX9_bins : ByteArray := prog_1_method_12_code
def yX9_bins : MethodName := ⟨RX9, "bins", "(I)I"⟩
abbrev cX9_spikes : ByteArray := prog_1_method_13_code
def yX9_spikes : MethodName := ⟨RX9, "spikes", "(II)I"⟩
abbrev cX9_dot : ByteArray := prog_1_method_14_code
def yX9_dot : MethodName := ⟨RX9, "dot", "(III)I"⟩
abbrev cX9_mask : ByteArray := prog_1_method_15_code
def yX9_mask : MethodName := ⟨RX9, "mask", "(IIZ)I"⟩
abbrev cX9_turn : ByteArray := prog_1_method_16_code
def yX9_turn : MethodName := ⟨RX9, "turn", "(I)I"⟩
abbrev cX9_filtered : ByteArray := prog_1_method_17_code
def yX9_filtered : MethodName := ⟨RX9, "filtered", "(I)I"⟩
abbrev cX9_all : ByteArray := prog_1_method_18_code
def yX9_all : MethodName := ⟨RX9, "all", "()I"⟩
abbrev cX9_until : ByteArray := prog_1_method_19_code
def yX9_until : MethodName := ⟨RX9, "until", "(II)I"⟩
abbrev cX9_noise : ByteArray := prog_1_method_20_code
def yX9_noise : MethodName := ⟨RX9, "noise", "(I)I"⟩
abbrev cX9_undo : ByteArray := prog_1_method_21_code
def yX9_undo : MethodName := ⟨RX9, "undo", "(I)I"⟩
abbrev cX9_write : ByteArray := prog_1_method_22_code
def yX9_write : MethodName := ⟨RX9, "write", "(III)I"⟩
abbrev cX9_tear : ByteArray := prog_1_method_23_code
def yX9_tear : MethodName := ⟨RX9, "tear", "()I"⟩
abbrev cX9_seed : ByteArray := prog_1_method_24_code
def yX9_seed : MethodName := ⟨RX9, "seed", "(I)I"⟩
abbrev cX9_keep : ByteArray := prog_1_method_25_code
def yX9_keep : MethodName := ⟨RX9, "keep", "(I)I"⟩
abbrev cX9_goBack : ByteArray := prog_1_method_26_code
def yX9_goBack : MethodName := ⟨RX9, "goBack", "(I)I"⟩
abbrev cX9_against : ByteArray := prog_1_method_27_code
def yX9_against : MethodName := ⟨RX9, "against", "(I)I"⟩
abbrev cX9_within : ByteArray := prog_1_method_28_code
def yX9_within : MethodName := ⟨RX9, "within", "(III)Z"⟩
abbrev cX9_lastOf : ByteArray := prog_1_method_29_code
def yX9_lastOf : MethodName := ⟨RX9, "lastOf", "(LTalliedWindows$Filter;II)I"⟩
abbrev cX9_apply : ByteArray := prog_1_method_30_code
def yX9_apply : MethodName := ⟨RX9, "apply", "(LTalliedWindows$Filter;)I"⟩
def RX10 : String := "TalliedWindowsModel"
def TX10 : u_T := fun k => match k with
  | 0 => ("TalliedWindowsModel", "w", "[I", true)
  | 1 => ("TalliedWindowsModel", "known", "I", false)
  | 2 => ("TalliedWindowsModel", "kept", "I", false)
  | 3 => ("TalliedWindowsModel", "seed", "I", false)
  | 4 => ("TalliedWindowsModel", "text", "[I", true)
  | 5 => ("TalliedWindowsModel", "size", "I", false)
  | 6 => ("TalliedWindowsModel", "faultAt", "I", false)
  | 7 => ("TalliedWindowsModel", "filters", "[I", true)
  | 8 => ("TalliedWindowsModel", "fill", "I", false)
  | 9 => ("TalliedWindowsModel", "imageFilters", "[I", true)
  | 10 => ("TalliedWindowsModel", "imageFill", "[I", true)
  | 11 => ("TalliedWindowsModel", "imageSeed", "[I", true)
  | 12 => ("TalliedWindowsModel", "bookX", "[I", true)
  | 13 => ("TalliedWindowsModel", "bookY", "[I", true)
  | 14 => ("TalliedWindowsModel", "bookIs", "[I", true)
  | 15 => ("TalliedWindowsModel", "written", "I", false)
  | 16 => ("TalliedWindowsModel", "rows", "I", false)
  | 17 => ("TalliedWindowsModel", "inRow", "I", false)
  | 18 => ("TalliedWindowsModel", "wide", "I", false)
  | 19 => ("TalliedWindowsModel", "half", "I", false)
  | 20 => ("TalliedWindowsModel", "counted", "[I", true)
  | 21 => ("TalliedWindowsModel", "many", "I", false)
  | _ => ("TalliedWindowsModel", "next", "[I", true)
def tyX10 : Nat → FieldType := fun k => match k with
  | 0 => .array .int
  | 1 => .int
  | 2 => .int
  | 3 => .int
  | 4 => .array .int
  | 5 => .int
  | 6 => .int
  | 7 => .array .int
  | 8 => .int
  | 9 => .array .int
  | 10 => .array .int
  | 11 => .array .int
  | 12 => .array .int
  | 13 => .array .int
  | 14 => .array .int
  | 15 => .int
  | 16 => .int
  | 17 => .int
  | 18 => .int
  | 19 => .int
  | 20 => .array .int
  | 21 => .int
  | _ => .array .int
abbrev wsX100 : List Cond := u_ws RX10 TX10 23
theorem nmX10 : ∀ a, a < 23 → ∀ b, b < 23 → a ≠ b → (TX10 a).2.1 ≠ (TX10 b).2.1 := by decide +kernel
theorem tyX10_ok : ∀ k, k < 23 → parseFieldDescriptor (TX10 k).2.2.1 = some (tyX10 k) := by decide +kernel
abbrev cX10_init : ByteArray := prog_12_method_1_code
def yX10_init : MethodName := ⟨RX10, "<init>", "()V"⟩
abbrev cX10_in : ByteArray := prog_12_method_2_code
def yX10_in : MethodName := ⟨RX10, "in", "(JJJ)Z"⟩
abbrev cX10_copyRow : ByteArray := prog_12_method_3_code
def yX10_copyRow : MethodName := ⟨RX10, "copyRow", "(II)V"⟩
abbrev cX10_remember : ByteArray := prog_12_method_4_code
def yX10_remember : MethodName := ⟨RX10, "remember", "()V"⟩
abbrev cX10_place : ByteArray := prog_12_method_5_code
def yX10_place : MethodName := ⟨RX10, "place", "(II)I"⟩
abbrev cX10_grey : ByteArray := prog_12_method_6_code
def yX10_grey : MethodName := ⟨RX10, "grey", "(II)I"⟩
abbrev cX10_isMasked : ByteArray := prog_12_method_7_code
def yX10_isMasked : MethodName := ⟨RX10, "isMasked", "(II)Z"⟩
abbrev cX10_isDot : ByteArray := prog_12_method_8_code
def yX10_isDot : MethodName := ⟨RX10, "isDot", "(II)Z"⟩
abbrev cX10_setGrey : ByteArray := prog_12_method_9_code
def yX10_setGrey : MethodName := ⟨RX10, "setGrey", "(III)V"⟩
abbrev cX10_figure : ByteArray := prog_12_method_10_code
def yX10_figure : MethodName := ⟨RX10, "figure", "(I)I"⟩
abbrev cX10_isShort : ByteArray := prog_12_method_11_code
def yX10_isShort : MethodName := ⟨RX10, "isShort", "()Z"⟩
abbrev cX10_faultOfBreak : ByteArray := prog_12_method_12_code
def yX10_faultOfBreak : MethodName := ⟨RX10, "faultOfBreak", "()I"⟩
abbrev cX10_faultOf : ByteArray := prog_12_method_13_code
def yX10_faultOf : MethodName := ⟨RX10, "faultOf", "(I)I"⟩
abbrev cX10_goOn : ByteArray := prog_12_method_14_code
def yX10_goOn : MethodName := ⟨RX10, "goOn", "(I)V"⟩
abbrev cX10_readText : ByteArray := prog_12_method_15_code
def yX10_readText : MethodName := ⟨RX10, "readText", "()I"⟩
abbrev cX10_layPicture : ByteArray := prog_12_method_16_code
def yX10_layPicture : MethodName := ⟨RX10, "layPicture", "()V"⟩
abbrev cX10_feed : ByteArray := prog_12_method_17_code
def yX10_feed : MethodName := ⟨RX10, "feed", "(I)I"⟩
abbrev cX10_picture : ByteArray := prog_12_method_18_code
def yX10_picture : MethodName := ⟨RX10, "picture", "()I"⟩
abbrev cX10_fault : ByteArray := prog_12_method_19_code
def yX10_fault : MethodName := ⟨RX10, "fault", "()I"⟩
abbrev cX10_part : ByteArray := prog_12_method_20_code
def yX10_part : MethodName := ⟨RX10, "part", "(II)I"⟩
abbrev cX10_count : ByteArray := prog_12_method_21_code
def yX10_count : MethodName := ⟨RX10, "count", "(I)V"⟩
abbrev cX10_leftOver : ByteArray := prog_12_method_22_code
def yX10_leftOver : MethodName := ⟨RX10, "leftOver", "(II)I"⟩
abbrev cX10_standIn : ByteArray := prog_12_method_23_code
def yX10_standIn : MethodName := ⟨RX10, "standIn", "(III)I"⟩
abbrev cX10_countOut : ByteArray := prog_12_method_24_code
def yX10_countOut : MethodName := ⟨RX10, "countOut", "(III)V"⟩
abbrev cX10_countAt : ByteArray := prog_12_method_25_code
def yX10_countAt : MethodName := ⟨RX10, "countAt", "(IIIZ)V"⟩
abbrev cX10_layWindow : ByteArray := prog_12_method_26_code
def yX10_layWindow : MethodName := ⟨RX10, "layWindow", "(III)V"⟩
abbrev cX10_lastOf : ByteArray := prog_12_method_27_code
def yX10_lastOf : MethodName := ⟨RX10, "lastOf", "(III)I"⟩
abbrev cX10_applyNow : ByteArray := prog_12_method_28_code
def yX10_applyNow : MethodName := ⟨RX10, "applyNow", "(I)I"⟩
abbrev cX10_masked : ByteArray := prog_12_method_29_code
def yX10_masked : MethodName := ⟨RX10, "masked", "()I"⟩
abbrev cX10_ofGreys : ByteArray := prog_12_method_30_code
def yX10_ofGreys : MethodName := ⟨RX10, "ofGreys", "(I)I"⟩
abbrev cX10_wrong : ByteArray := prog_12_method_31_code
def yX10_wrong : MethodName := ⟨RX10, "wrong", "()I"⟩
abbrev cX10_told : ByteArray := prog_12_method_32_code
def yX10_told : MethodName := ⟨RX10, "told", "(I)I"⟩
abbrev cX10_at : ByteArray := prog_12_method_33_code
def yX10_at : MethodName := ⟨RX10, "at", "(III)I"⟩
abbrev cX10_tally : ByteArray := prog_12_method_34_code
def yX10_tally : MethodName := ⟨RX10, "tally", "(IIIII)I"⟩
abbrev cX10_filter : ByteArray := prog_12_method_35_code
def yX10_filter : MethodName := ⟨RX10, "filter", "(IIIII)I"⟩
abbrev cX10_isFilter : ByteArray := prog_12_method_36_code
def yX10_isFilter : MethodName := ⟨RX10, "isFilter", "(I)Z"⟩
abbrev cX10_drop : ByteArray := prog_12_method_37_code
def yX10_drop : MethodName := ⟨RX10, "drop", "(I)I"⟩
abbrev cX10_fill : ByteArray := prog_12_method_38_code
def yX10_fill : MethodName := ⟨RX10, "fill", "(I)I"⟩
abbrev cX10_below : ByteArray := prog_12_method_39_code
def yX10_below : MethodName := ⟨RX10, "below", "(I)I"⟩
abbrev cX10_would : ByteArray := prog_12_method_40_code
def yX10_would : MethodName := ⟨RX10, "would", "(IIII)I"⟩
abbrev cX10_bins : ByteArray := prog_12_method_41_code
def yX10_bins : MethodName := ⟨RX10, "bins", "(I)I"⟩
abbrev cX10_spikes : ByteArray := prog_12_method_42_code
def yX10_spikes : MethodName := ⟨RX10, "spikes", "(II)I"⟩
abbrev cX10_dot : ByteArray := prog_12_method_43_code
def yX10_dot : MethodName := ⟨RX10, "dot", "(III)I"⟩
abbrev cX10_mask : ByteArray := prog_12_method_44_code
def yX10_mask : MethodName := ⟨RX10, "mask", "(IIZ)I"⟩
abbrev cX10_turnedFrom : ByteArray := prog_12_method_45_code
def yX10_turnedFrom : MethodName := ⟨RX10, "turnedFrom", "(III)I"⟩
abbrev cX10_turn : ByteArray := prog_12_method_46_code
def yX10_turn : MethodName := ⟨RX10, "turn", "(I)I"⟩
abbrev cX10_filtered : ByteArray := prog_12_method_47_code
def yX10_filtered : MethodName := ⟨RX10, "filtered", "(I)I"⟩
abbrev cX10_all : ByteArray := prog_12_method_48_code
def yX10_all : MethodName := ⟨RX10, "all", "()I"⟩
abbrev cX10_until : ByteArray := prog_12_method_49_code
def yX10_until : MethodName := ⟨RX10, "until", "(II)I"⟩
abbrev cX10_draw : ByteArray := prog_12_method_50_code
def yX10_draw : MethodName := ⟨RX10, "draw", "(I)I"⟩
abbrev cX10_noise : ByteArray := prog_12_method_51_code
def yX10_noise : MethodName := ⟨RX10, "noise", "(I)I"⟩
abbrev cX10_undo : ByteArray := prog_12_method_52_code
def yX10_undo : MethodName := ⟨RX10, "undo", "(I)I"⟩
abbrev cX10_write : ByteArray := prog_12_method_53_code
def yX10_write : MethodName := ⟨RX10, "write", "(III)I"⟩
abbrev cX10_tear : ByteArray := prog_12_method_54_code
def yX10_tear : MethodName := ⟨RX10, "tear", "()I"⟩
abbrev cX10_seed : ByteArray := prog_12_method_55_code
def yX10_seed : MethodName := ⟨RX10, "seed", "(I)I"⟩
abbrev cX10_isKept : ByteArray := prog_12_method_56_code
def yX10_isKept : MethodName := ⟨RX10, "isKept", "(I)Z"⟩
abbrev cX10_keep : ByteArray := prog_12_method_57_code
def yX10_keep : MethodName := ⟨RX10, "keep", "(I)I"⟩
abbrev cX10_goBack : ByteArray := prog_12_method_58_code
def yX10_goBack : MethodName := ⟨RX10, "goBack", "(I)I"⟩
abbrev cX10_against : ByteArray := prog_12_method_59_code
def yX10_against : MethodName := ⟨RX10, "against", "(I)I"⟩
def RJ9 : String := "java/lang/Math"
def TJ9 : u_T := fun k => match k with
  | _ => ("", "", "", false)
def tyJ9 : Nat → FieldType := fun k => match k with
  | _ => .int
abbrev wsJ90 : List Cond := u_ws RJ9 TJ9 0
theorem nmJ9 : ∀ a, a < 0 → ∀ b, b < 0 → a ≠ b → (TJ9 a).2.1 ≠ (TJ9 b).2.1 := by decide +kernel
theorem tyJ9_ok : ∀ k, k < 0 → parseFieldDescriptor (TJ9 k).2.2.1 = some (tyJ9 k) := by decide +kernel
abbrev cJ9_floorMod_7cf53 : ByteArray := prog_13_method_50_code
def yJ9_floorMod_7cf53 : MethodName := ⟨RJ9, "floorMod", "(II)I"⟩
abbrev cJ9_abs_0f7a4 : ByteArray := prog_13_method_59_code
def yJ9_abs_0f7a4 : MethodName := ⟨RJ9, "abs", "(I)I"⟩
abbrev cJ9_min_7cf53 : ByteArray := prog_13_method_69_code
def yJ9_min_7cf53 : MethodName := ⟨RJ9, "min", "(II)I"⟩
def RJ7 : String := "java/util/Arrays"
def TJ7 : u_T := fun k => match k with
  | _ => ("", "", "", false)
def tyJ7 : Nat → FieldType := fun k => match k with
  | _ => .int
abbrev wsJ70 : List Cond := u_ws RJ7 TJ7 0
theorem nmJ7 : ∀ a, a < 0 → ∀ b, b < 0 → a ≠ b → (TJ7 a).2.1 ≠ (TJ7 b).2.1 := by decide +kernel
theorem tyJ7_ok : ∀ k, k < 0 → parseFieldDescriptor (TJ7 k).2.2.1 = some (tyJ7 k) := by decide +kernel
abbrev cJ7_fill_53178 : ByteArray := prog_14_method_103_code
def yJ7_fill_53178 : MethodName := ⟨RJ7, "fill", "([II)V"⟩
def RL : String := "TalliedWindowsLaw"
abbrev cL_law : ByteArray := code
def yL_law : MethodName := ⟨RL, "law", "([I)Z"⟩
abbrev vwCl : List vw_C := [(RX0, TX0, 4), (RX1, TX1, 5), (RX2, TX2, 2), (RX3, TX3, 3), (RX4, TX4, 4), (RX5, TX5, 6), (RX6, TX6, 4), (RX7, TX7, 3), (RX8, TX8, 3), (RX9, TX9, 10), (RX10, TX10, 23)]
end
section
/-! ===== THE ABSTRACT MACHINE: the cells made since the law began, by their places; a method's walk and contract over them ===== -/
abbrev ex_M : Type := MethodName × ByteArray × Nat × Option FieldType × Option (Nat × (Nat → Int32))
abbrev ex_C : Type := (FieldType × Nat × (Nat → Int32)) ⊕ (String × Nat × (Nat → Option Nat)) ⊕ (Nat × List Value)
abbrev ex_H : Type := List ex_C
abbrev ar (ty : FieldType) (n : Nat) (f : Nat → Int32) : ex_C := .inl (ty, n, f)
abbrev rr (C : String) (n : Nat) (f : Nat → Option Nat) : ex_C := .inr (.inl (C, n, f))
abbrev ob (ci : Nat) (fs : List Value) : ex_C := .inr (.inr (ci, fs))
abbrev ex_B : Type := Nat × Nat
def ex_v (b : ex_B) (v : Value) : Value := match v with
  | .ref k => .ref (b.1 + k)
  | .retAddr _ => .ref b.2
  | .int x => .int x
  | .long x => .long x
  | .float x => .float x
  | .double x => .double x
  | .null => .null
theorem ex_v_cat (b : ex_B) (v : Value) : (ex_v b v).category = v.category := by cases v <;> rfl
def ex_e (b : ex_B) (dA : FieldType → ClassId) (c : ex_C) : va_E := match c with
  | .inl (ty, n, f) => .inl (dA ty, n, .inl f)
  | .inr (.inl (C, n, f)) => .inl (dA (.object C), n, .inr (.inr (.inr (.inr (fun j => (f j).map (fun k => b.1 + k))))))
  | .inr (.inr (ci, fs)) => .inr (ci, fs.map (ex_v b))
def ex_g : List Cond := lw_tbl.filter goodWord
theorem ex_g_good : ∀ w ∈ ex_g, (w.onTables && w.keeps) = true ∨ ∃ ty, w = .arrayClass ty := fun w h => good_of_word (List.mem_filter.mp h).2
def ex_tys (dA : FieldType → ClassId) : List (ClassId × FieldType) := [(dA .int, .int), (dA .boolean, .boolean), (dA (.object RX1), .object RX1), (dA (.object RX4), .object RX4), (dA (.object RX6), .object RX6)]
def ex_K (D : va_G) (dA : FieldType → ClassId) (U : State) : Prop :=
  va_K D vwCl (ex_tys dA) U ∧ (∀ (a : String) (i : Nat) (x : MethodName) (h : String), Cond.methodLinkNest a i x h ∈ lw_tbl → va_Nw (.methodLinkNest a i x h) U) ∧ (∀ C : String, Cond.arrayOver (.object C) ∈ lw_tbl → va_AO C U)
theorem ex_K.warm {D : va_G} {dA : FieldType → ClassId} {s U : State} (hW : s.WarmedH U.vm) (h : ex_K D dA s) : ex_K D dA U :=
  ⟨va_K.moved hW.alike h.1, fun a i x y hm => va_Nw.warmM hW (h.2.1 a i x y hm), fun C hm => va_AO.moved hW.alike (h.2.2 C hm)⟩
theorem ex_K.same {D : va_G} {dA : FieldType → ClassId} {s U : State} (hv : s.vm = U.vm) (h : ex_K D dA s) : ex_K D dA U :=
  ⟨va_K.moved (by rw [hv]; exact Vm.Alike.refl _) h.1, fun a i x y hm => va_Nw.same rfl hv (h.2.1 a i x y hm), fun C hm => va_AO.moved (by rw [hv]; exact Vm.Alike.refl _) (h.2.2 C hm)⟩
def ex_P (D : va_G) (dA : FieldType → ClassId) (b : ex_B) (H : ex_H) (HH : Heap) : Prop := HH.size = b.1 + H.length ∧ ∀ (k : Nat) (c : ex_C), H[k]? = some c → va_at D vwCl (b.1 + k, ex_e b dA c) HH
theorem ex_P.set {D : va_G} {dA : FieldType → ClassId} {b : ex_B} {H : ex_H} {HH H1 : Heap} {k : Nat} {c0 c : ex_C} (h : ex_P D dA b H HH) (hk : H[k]? = some c0) (hz : H1.size = HH.size) (ho : ∀ q : Nat, q ≠ b.1 + k → H1[q]? = HH[q]?) (he : va_at D vwCl (b.1 + k, ex_e b dA c) H1) : ex_P D dA b (H.set k c) H1 := by
  have hl := (List.getElem?_eq_some_iff.mp hk).1
  refine ⟨by rw [hz, h.1, List.length_set], fun j x hj => ?_⟩
  by_cases hjk : j = k
  · subst hjk
    rw [List.getElem?_set_self hl] at hj
    cases hj
    exact he
  · rw [List.getElem?_set_ne (Ne.symm hjk)] at hj
    exact (h.2 j x hj).kept (ho _ (fun z => hjk (Nat.add_left_cancel z)))
theorem ex_P.push {D : va_G} {dA : FieldType → ClassId} {b : ex_B} {H : ex_H} {HH H1 : Heap} {c : ex_C} (h : ex_P D dA b H HH) (hz : H1.size = HH.size + 1) (ho : ∀ q : Nat, q < HH.size → H1[q]? = HH[q]?) (he : va_at D vwCl (b.1 + H.length, ex_e b dA c) H1) : ex_P D dA b (H ++ [c]) H1 := by
  refine ⟨by rw [hz, h.1, List.length_append, List.length_singleton, Nat.add_assoc], fun j x hj => ?_⟩
  by_cases hl : j < H.length
  · rw [List.getElem?_append_left hl] at hj
    exact (h.2 j x hj).kept (ho _ (by rw [h.1]; exact Nat.add_lt_add_left hl _))
  · rw [List.getElem?_append_right (by omega)] at hj
    have hz1 : j - H.length < 1 := (List.getElem?_eq_some_iff.mp hj).1
    have hj0 : j = H.length := by omega
    subst hj0
    rw [Nat.sub_self] at hj
    cases hj
    exact he
def ex_R (d mc ms : Nat) : Room := { frames := d, cells := mc, slots := ms, locals := 38 * d + 4 }
def ex_L (b : ex_B) (nL : Nat) (lsr : Array Slot) (ls : List (Nat × Value)) : Prop := lsr.size = nL ∧ lv_wf lsr ∧ ∀ (i : Nat) (v : Value), ls.lookup i = some v → lsr[i]? = some (.val (ex_v b v))
def ex_Q (D : va_G) (dA : FieldType → ClassId) (b : ex_B) (post : ex_H → Option Value → Prop) : Array Value → State → Outcome → State → Prop := fun _ st oc t =>
  (∃ (H' : ex_H) (r : Option Value), oc = .returned (r.map (ex_v b)) ∧ post H' r ∧ ex_P D dA b H' t.heap) ∧ va_F (fun q => b.1 ≤ q) st t
def ex_X (M : ex_M) (p : Program) (s : State) (m : MethodId) (args : Array Value) (meth : Method) (c : Code) (D : va_G) (dA : FieldType → ClassId) (b : ex_B) : Prop :=
  p.tables.exec = Jvm.exec ∧ c.code = M.2.1 ∧ meth.sig.returnType = M.2.2.2.1 ∧ meth.locks = false ∧ c.maxLocals = M.2.2.1 ∧ s.vm.findClass M.1.cls = some m.cls ∧ meth.name = M.1.name ∧ (∀ w ∈ ex_g, w.before args s = true) ∧ ex_K D dA s ∧
  ∀ (L : Nat) (xs : Nat → Int32), M.2.2.2.2 = some (L, xs) → va_X b.2 L xs s s.heap ∧ b.2 < s.heap.size ∧ b.2 < b.1
/-- the walk: method M stands at pc with the locals ls, the stack st, over the cells H -/
def ex_W (M : ex_M) (d mc ms : Nat) (post : ex_H → Option Value → Prop) (H : ex_H) (pc : Nat) (ls : List (Nat × Value)) (st : List Value) (cells slots : Nat) : Prop :=
  ∀ (p : Program) (l : Launch) (e : Env) (s : State) (m : MethodId) (args : Array Value) (below : List Frame) (meth : Method) (c : Code) (D : va_G) (dA : FieldType → ClassId) (b : ex_B), ex_X M p s m args meth c D dA b →
    ∀ (HH : Heap) (locs : List Loc) (lsr : Array Slot), ex_P D dA b H HH → va_S (fun q => b.1 ≤ q) s.heap HH locs → ex_L b M.2.2.1 lsr ls →
    W p l e (ex_R d mc ms) s m args below meth c HH locs cells slots (MQ below (ex_Q D dA b post) args s mc ms (fun q => b.1 ≤ q)) (F0 m pc lsr (st.map (ex_v b)))
/-- the contract: method N over the cells H with the arguments As returns, with 'post' of the cells and the answer -/
def ex_Met (N : ex_M) (d mc ms : Nat) (H : ex_H) (As : List Value) (post : ex_H → Option Value → Prop) : Prop :=
  ∀ (l : Launch) (D : va_G) (dA : FieldType → ClassId) (b : ex_B), Met l N.1 (.code N.1 N.2.1 N.2.2.1 N.2.2.2.1 :: ex_g) (ex_R d mc ms) (va_Pc (As.map (ex_v b)) (fun U => ex_P D dA b H U.heap ∧ ex_K D dA U)) (ex_Q D dA b post) mc ms (fun q => b.1 ≤ q)
theorem ex_lv_args (b : ex_B) : ∀ (As : List Value) (i : Nat), lv_args i (As.map (ex_v b)) = (lv_args i As).map (fun q => (q.1, ex_v b q.2))
  | [], _ => rfl
  | v :: As, i => by
    show (i, ex_v b v) :: lv_args (if (ex_v b v).category = 2 then i + 2 else i + 1) (As.map (ex_v b)) = (i, ex_v b v) :: (lv_args (if v.category = 2 then i + 2 else i + 1) As).map (fun q => (q.1, ex_v b q.2))
    rw [ex_v_cat, ex_lv_args b As]
theorem ex_lookup_mem : ∀ (ls : List (Nat × Value)) (i : Nat) (v : Value), ls.lookup i = some v → (i, v) ∈ ls
  | [], _, _, h => by cases h
  | (j, w) :: ls, i, v, h => by
    by_cases hij : i = j
    · subst hij
      rw [List.lookup_cons_self] at h
      cases h
      exact List.mem_cons_self
    · have hb : (i == j) = false := by simpa using hij
      simp only [List.lookup, hb] at h
      exact List.mem_cons_of_mem _ (ex_lookup_mem ls i v h)
theorem ex_meth {N : ex_M} {d mc ms : Nat} {H : ex_H} {As : List Value} {post : ex_H → Option Value → Prop} (ls : List (Nat × Value)) (hls : lv_args 0 As = ls) (hy : plainName N.1.cls = true) (hsp : N.2.2.2.2 = none)
    (hL : ∀ b : ex_B, (lg_sl (As.map (ex_v b))).length ≤ N.2.2.1) (k : ex_W N d mc ms post H 0 ls [] 0 0) : ex_Met N d mc ms H As post := by
  intro l D dA b
  refine Met.ofW (cc := N.2.1) (maxL := N.2.2.1) (ret := N.2.2.2.1) hy rfl ?_
  intro p e s m args below meth c s₁ B hml hv
  obtain ⟨rfl, hP, hK⟩ := hv
  have hts := atoms_spec (ws := .code N.1 N.2.1 N.2.2.1 N.2.2.2.1 :: ex_g) B.pre
  have hl := lv_entry (As.map (ex_v b)) (n := N.2.2.1) (hL b)
  rw [lg_entry_eq]
  refine k p l e s m _ below meth c D dA b ⟨B.exec, B.bytes, B.returns, B.notSynchronized, hml, findClass_of_methodNamed B.named, (name_of_methodNamed B.named B.method).1, fun w hw => hts w (List.mem_cons_of_mem _ hw), hK, fun L xs h => by rw [hsp] at h; cases h⟩ s.heap [] _ hP va_S.rf ?_
  refine ⟨hl.1, hl.2.1, fun i v hi => ?_⟩
  have hm := ex_lookup_mem _ _ _ hi
  rw [← hls] at hm
  exact hl.2.2 (i, ex_v b v) (by rw [ex_lv_args]; exact List.mem_map.mpr ⟨(i, v), hm, rfl⟩)
section EW
variable {M : ex_M} {d mc ms : Nat} {post : ex_H → Option Value → Prop} {H : ex_H} {pc : Nat} {ls : List (Nat × Value)} {st : List Value} {cells slots : Nat}
def ex_sub : List (Nat × Value) → List (Nat × Value) → Prop
  | [], _ => True
  | q :: r, ls => ls.lookup q.1 = some q.2 ∧ ex_sub r ls
theorem ex_sub_lookup : ∀ (l' ls : List (Nat × Value)), ex_sub l' ls → ∀ i v, l'.lookup i = some v → ls.lookup i = some v
  | [], _, _, _, _, h => by cases h
  | (j, w) :: l', ls, hs, i, v, h => by
    by_cases hij : i = j
    · subst hij
      rw [List.lookup_cons_self] at h
      cases h
      exact hs.1
    · have hb : (i == j) = false := by simpa using hij
      simp only [List.lookup, hb] at h
      exact ex_sub_lookup l' ls hs.2 i v h
/-- fewer locals are known -/
theorem ew_ls (ls' : List (Nat × Value)) (hs : ex_sub ls' ls) (k : ex_W M d mc ms post H pc ls' st cells slots) : ex_W M d mc ms post H pc ls st cells slots := by
  intro p l e s m args below meth c D dA b X HH locs lsr hP hS hL
  exact k p l e s m args below meth c D dA b X HH locs lsr hP hS ⟨hL.1, hL.2.1, fun i v h => hL.2.2 i v (ex_sub_lookup _ _ hs i v h)⟩
theorem ew_post {post' : ex_H → Option Value → Prop} (hq : ∀ H' r, post' H' r → post H' r) (k : ex_W M d mc ms post' H pc ls st cells slots) : ex_W M d mc ms post H pc ls st cells slots := by
  intro p l e s m args below meth c D dA b X HH locs lsr hP hS hL T hT XT
  obtain ⟨t, h1, o, h2, h3, ⟨⟨H', r, e1, e2, e3⟩, e4⟩, h5⟩ := k p l e s m args below meth c D dA b X HH locs lsr hP hS hL T hT XT
  exact ⟨t, h1, o, h2, h3, ⟨⟨H', r, e1, hq H' r e2, e3⟩, e4⟩, h5⟩

theorem ew_iconst {n : Int} (hd : decode M.2.1 pc = .ok (.iconst n, 1)) {v : Int32} (hv : Int32.ofInt n = v) (k : ex_W M d mc ms post H (pc + 1) ls (.int v :: st) cells slots) : ex_W M d mc ms post H pc ls (st) cells slots := by
  intro p l e s m args below meth c D dA b X HH locs lsr hP hS hL
  exact lv_iconst X.1 X.2.1 hd hv (k p l e s m args below meth c D dA b X HH locs lsr hP hS hL)
theorem ew_bipush {n : Int} (hd : decode M.2.1 pc = .ok (.bipush n, 2)) {v : Int32} (hv : (Int8.ofInt n).toInt32 = v) (k : ex_W M d mc ms post H (pc + 2) ls (.int v :: st) cells slots) : ex_W M d mc ms post H pc ls (st) cells slots := by
  intro p l e s m args below meth c D dA b X HH locs lsr hP hS hL
  exact lv_bipush X.1 X.2.1 hd hv (k p l e s m args below meth c D dA b X HH locs lsr hP hS hL)
theorem ew_sipush {n : Int} (hd : decode M.2.1 pc = .ok (.sipush n, 3)) {v : Int32} (hv : (Int16.ofInt n).toInt32 = v) (k : ex_W M d mc ms post H (pc + 3) ls (.int v :: st) cells slots) : ex_W M d mc ms post H pc ls (st) cells slots := by
  intro p l e s m args below meth c D dA b X HH locs lsr hP hS hL
  exact lv_sipush X.1 X.2.1 hd hv (k p l e s m args below meth c D dA b X HH locs lsr hP hS hL)
theorem ew_lconst {n : Fin 2} (hd : decode M.2.1 pc = .ok (.lconst n, 1)) {v : Int64} (hv : Int64.ofNat (n : Nat) = v) (k : ex_W M d mc ms post H (pc + 1) ls (.long v :: st) cells slots) : ex_W M d mc ms post H pc ls (st) cells slots := by
  intro p l e s m args below meth c D dA b X HH locs lsr hP hS hL
  exact lv_lconst X.1 X.2.1 hd hv (k p l e s m args below meth c D dA b X HH locs lsr hP hS hL)
theorem ew_ldc {i : Nat} {v : Int32} (hd : decode M.2.1 pc = .ok (.ldc i, 2)) (hw : Cond.constant M.1.cls i v ∈ ex_g) (k : ex_W M d mc ms post H (pc + 2) ls (.int v :: st) cells slots) : ex_W M d mc ms post H pc ls (st) cells slots := by
  intro p l e s m args below meth c D dA b X HH locs lsr hP hS hL
  exact lv_ldc X.1 X.2.1 X.2.2.2.2.2.1 (X.2.2.2.2.2.2.2.1 _ hw) hd (k p l e s m args below meth c D dA b X HH locs lsr hP hS hL)
theorem ew_ldc2 {i : Nat} {v : Int64} (hd : decode M.2.1 pc = .ok (.ldc2_w i, 3)) (hw : Cond.constantLong M.1.cls i v ∈ ex_g) (k : ex_W M d mc ms post H (pc + 3) ls (.long v :: st) cells slots) : ex_W M d mc ms post H pc ls (st) cells slots := by
  intro p l e s m args below meth c D dA b X HH locs lsr hP hS hL
  exact lv_ldc2 X.1 X.2.1 X.2.2.2.2.2.1 (X.2.2.2.2.2.2.2.1 _ hw) hd (k p l e s m args below meth c D dA b X HH locs lsr hP hS hL)
theorem ew_iload_n {j : Fin 4} {x : Int32} (hd : decode M.2.1 pc = .ok (.iload_n j, 1)) (hl : ls.lookup (j : Nat) = some (.int x)) (k : ex_W M d mc ms post H (pc + 1) ls (.int x :: st) cells slots) : ex_W M d mc ms post H pc ls (st) cells slots := by
  intro p l e s m args below meth c D dA b X HH locs lsr hP hS hL
  exact lv_iload_n X.1 X.2.1 hd rfl (hL.2.2 _ _ hl) (k p l e s m args below meth c D dA b X HH locs lsr hP hS hL)
theorem ew_iload {i : Nat} {x : Int32} (hd : decode M.2.1 pc = .ok (.iload i, 2)) (hl : ls.lookup i = some (.int x)) (k : ex_W M d mc ms post H (pc + 2) ls (.int x :: st) cells slots) : ex_W M d mc ms post H pc ls (st) cells slots := by
  intro p l e s m args below meth c D dA b X HH locs lsr hP hS hL
  exact lv_iload X.1 X.2.1 hd (hL.2.2 _ _ hl) (k p l e s m args below meth c D dA b X HH locs lsr hP hS hL)
theorem ew_lload_n {j : Fin 4} {x : Int64} (hd : decode M.2.1 pc = .ok (.lload_n j, 1)) (hl : ls.lookup (j : Nat) = some (.long x)) (k : ex_W M d mc ms post H (pc + 1) ls (.long x :: st) cells slots) : ex_W M d mc ms post H pc ls (st) cells slots := by
  intro p l e s m args below meth c D dA b X HH locs lsr hP hS hL
  exact lv_lload_n X.1 X.2.1 hd rfl (hL.2.2 _ _ hl) (k p l e s m args below meth c D dA b X HH locs lsr hP hS hL)
theorem ew_lload {i : Nat} {x : Int64} (hd : decode M.2.1 pc = .ok (.lload i, 2)) (hl : ls.lookup i = some (.long x)) (k : ex_W M d mc ms post H (pc + 2) ls (.long x :: st) cells slots) : ex_W M d mc ms post H pc ls (st) cells slots := by
  intro p l e s m args below meth c D dA b X HH locs lsr hP hS hL
  exact lv_lload X.1 X.2.1 hd (hL.2.2 _ _ hl) (k p l e s m args below meth c D dA b X HH locs lsr hP hS hL)
theorem ew_aload_n {j : Fin 4} {v : Value} (hd : decode M.2.1 pc = .ok (.aload_n j, 1)) (hl : ls.lookup (j : Nat) = some v) (hv : v = .null ∨ (∃ a, v = .ref a) ∨ ∃ a, v = .retAddr a) (k : ex_W M d mc ms post H (pc + 1) ls (v :: st) cells slots) : ex_W M d mc ms post H pc ls st cells slots := by
  intro p l e s m args below meth c D dA b X HH locs lsr hP hS hL
  have hq := hL.2.2 _ _ hl
  have hk := k p l e s m args below meth c D dA b X HH locs lsr hP hS hL
  rcases hv with rfl | ⟨a, rfl⟩ | ⟨a, rfl⟩
  · exact lv_aload_nN X.1 X.2.1 hd rfl hq hk
  · exact lv_aload_n X.1 X.2.1 hd rfl hq hk
  · exact lv_aload_n X.1 X.2.1 hd rfl hq hk
theorem ew_aload {i : Nat} {v : Value} (hd : decode M.2.1 pc = .ok (.aload i, 2)) (hl : ls.lookup i = some v) (hv : v = .null ∨ (∃ a, v = .ref a) ∨ ∃ a, v = .retAddr a) (k : ex_W M d mc ms post H (pc + 2) ls (v :: st) cells slots) : ex_W M d mc ms post H pc ls st cells slots := by
  intro p l e s m args below meth c D dA b X HH locs lsr hP hS hL
  have hq := hL.2.2 _ _ hl
  have hk := k p l e s m args below meth c D dA b X HH locs lsr hP hS hL
  rcases hv with rfl | ⟨a, rfl⟩ | ⟨a, rfl⟩
  · exact lv_aloadN X.1 X.2.1 hd  hq hk
  · exact lv_aload X.1 X.2.1 hd  hq hk
  · exact lv_aload X.1 X.2.1 hd  hq hk
theorem ex_L.store {b : ex_B} {nL : Nat} {lsr ls' : Array Slot} {ls : List (Nat × Value)} {i : Nat} {v : Value} (hL : ex_L b nL lsr ls) (hc : ls.all (fun q => q.2.category == 1) = true)
    (h : lv_has ls' nL ((i, ex_v b v) :: (ls.filterMap (fun q => (ls.lookup q.1).map (fun w => (q.1, ex_v b w)))).filter (fun q => !(q.1 == i) && !(q.1 + 1 == i && q.2.category == 2)))) : ex_L b nL ls' ((i, v) :: ls) := by
  refine ⟨h.1, h.2.1, fun j w hj => ?_⟩
  by_cases hij : j = i
  · subst hij
    rw [List.lookup_cons_self] at hj
    cases hj
    exact h.2.2 (j, ex_v b v) List.mem_cons_self
  · have hb : (j == i) = false := by simpa using hij
    simp only [List.lookup, hb] at hj
    have hm := ex_lookup_mem _ _ _ hj
    have hcat : w.category = 1 := by
      have := List.all_eq_true.mp hc _ hm
      simpa using this
    refine h.2.2 (j, ex_v b w) (List.mem_cons_of_mem _ (List.mem_filter.mpr ⟨List.mem_filterMap.mpr ⟨(j, w), hm, by simp [hj]⟩, ?_⟩))
    simp [hij, ex_v_cat, hcat]
theorem ex_L.has {b : ex_B} {nL : Nat} {lsr : Array Slot} {ls : List (Nat × Value)} (hL : ex_L b nL lsr ls) : lv_has lsr nL (ls.filterMap (fun q => (ls.lookup q.1).map (fun w => (q.1, ex_v b w)))) := by
  refine ⟨hL.1, hL.2.1, fun q hq => ?_⟩
  obtain ⟨x, -, hx⟩ := List.mem_filterMap.mp hq
  obtain ⟨w, hw, rfl⟩ := Option.map_eq_some_iff.mp hx
  exact hL.2.2 _ _ hw
theorem ew_istore_n {j : Fin 4} {x : Int32} (hd : decode M.2.1 pc = .ok (.istore_n j, 1)) (hn : (j : Nat) < M.2.2.1) (hc : ls.all (fun q => q.2.category == 1) = true) (k : ex_W M d mc ms post H (pc + 1) (((j : Nat), .int x) :: ls) st cells slots) : ex_W M d mc ms post H pc ls (.int x :: st) cells slots := by
  intro p l e s m args below meth c D dA b X HH locs lsr hP hS hL
  exact lv_istore_n X.1 X.2.1 hd rfl hL.has hn rfl (fun ls' h => k p l e s m args below meth c D dA b X HH locs ls' hP hS (hL.store (v := .int x) hc h))
theorem ew_istore {i : Nat} {x : Int32} (hd : decode M.2.1 pc = .ok (.istore i, 2)) (hn : i < M.2.2.1) (hc : ls.all (fun q => q.2.category == 1) = true) (k : ex_W M d mc ms post H (pc + 2) ((i, .int x) :: ls) st cells slots) : ex_W M d mc ms post H pc ls (.int x :: st) cells slots := by
  intro p l e s m args below meth c D dA b X HH locs lsr hP hS hL
  exact lv_istore X.1 X.2.1 hd  hL.has hn rfl (fun ls' h => k p l e s m args below meth c D dA b X HH locs ls' hP hS (hL.store (v := .int x) hc h))
theorem ew_astore_n {j : Fin 4} {v : Value} (hd : decode M.2.1 pc = .ok (.astore_n j, 1)) (hv : v = .null ∨ ∃ a, v = .ref a) (hn : (j : Nat) < M.2.2.1) (hc : ls.all (fun q => q.2.category == 1) = true) (k : ex_W M d mc ms post H (pc + 1) (((j : Nat), v) :: ls) st cells slots) : ex_W M d mc ms post H pc ls (v :: st) cells slots := by
  intro p l e s m args below meth c D dA b X HH locs lsr hP hS hL
  rcases hv with rfl | ⟨a, rfl⟩
  · exact lv_astore_nN X.1 X.2.1 hd rfl hL.has hn rfl (fun ls' h => k p l e s m args below meth c D dA b X HH locs ls' hP hS (hL.store (v := .null) hc h))
  · exact lv_astore_n X.1 X.2.1 hd rfl hL.has hn rfl (fun ls' h => k p l e s m args below meth c D dA b X HH locs ls' hP hS (hL.store (v := .ref a) hc h))
theorem ew_astore {i : Nat} {v : Value} (hd : decode M.2.1 pc = .ok (.astore i, 2)) (hv : v = .null ∨ ∃ a, v = .ref a) (hn : i < M.2.2.1) (hc : ls.all (fun q => q.2.category == 1) = true) (k : ex_W M d mc ms post H (pc + 2) ((i, v) :: ls) st cells slots) : ex_W M d mc ms post H pc ls (v :: st) cells slots := by
  intro p l e s m args below meth c D dA b X HH locs lsr hP hS hL
  rcases hv with rfl | ⟨a, rfl⟩
  · exact lv_astoreN X.1 X.2.1 hd  hL.has hn rfl (fun ls' h => k p l e s m args below meth c D dA b X HH locs ls' hP hS (hL.store (v := .null) hc h))
  · exact lv_astore X.1 X.2.1 hd  hL.has hn rfl (fun ls' h => k p l e s m args below meth c D dA b X HH locs ls' hP hS (hL.store (v := .ref a) hc h))
theorem ew_iinc {i : Nat} {n : Int} {x v : Int32} (hd : decode M.2.1 pc = .ok (.iinc i n, 3)) (hl : ls.lookup i = some (.int x)) (hv : x + Int32.ofInt n = v) (hn : i < M.2.2.1) (hc : ls.all (fun q => q.2.category == 1) = true) (k : ex_W M d mc ms post H (pc + 3) ((i, .int v) :: ls) st cells slots) : ex_W M d mc ms post H pc ls st cells slots := by
  intro p l e s m args below meth c D dA b X HH locs lsr hP hS hL
  have hm := ex_lookup_mem _ _ _ hl
  have hm2 : (i, Value.int x) ∈ ls.filterMap (fun q => (ls.lookup q.1).map (fun w => (q.1, ex_v b w))) := List.mem_filterMap.mpr ⟨(i, .int x), hm, by simp [hl, ex_v]⟩
  obtain ⟨kk, hkk⟩ := List.getElem?_of_mem hm2
  exact lv_iinc X.1 X.2.1 hd hL.has hkk hv hn rfl (fun ls' h => k p l e s m args below meth c D dA b X HH locs ls' hP hS (hL.store (v := .int v) hc h))
theorem ew_iadd {x y : Int32} (hd : decode M.2.1 pc = .ok (.iadd, 1)) (k : ex_W M d mc ms post H (pc + 1) ls (.int (x + y) :: st) cells slots) : ex_W M d mc ms post H pc ls (.int y :: .int x :: st) cells slots := by
  intro p l e s m args below meth c D dA b X HH locs lsr hP hS hL
  exact lv_iadd X.1 X.2.1 hd (k p l e s m args below meth c D dA b X HH locs lsr hP hS hL)
theorem ew_isub {x y : Int32} (hd : decode M.2.1 pc = .ok (.isub, 1)) (k : ex_W M d mc ms post H (pc + 1) ls (.int (x - y) :: st) cells slots) : ex_W M d mc ms post H pc ls (.int y :: .int x :: st) cells slots := by
  intro p l e s m args below meth c D dA b X HH locs lsr hP hS hL
  exact lv_isub X.1 X.2.1 hd (k p l e s m args below meth c D dA b X HH locs lsr hP hS hL)
theorem ew_imul {x y : Int32} (hd : decode M.2.1 pc = .ok (.imul, 1)) (k : ex_W M d mc ms post H (pc + 1) ls (.int (x * y) :: st) cells slots) : ex_W M d mc ms post H pc ls (.int y :: .int x :: st) cells slots := by
  intro p l e s m args below meth c D dA b X HH locs lsr hP hS hL
  exact lv_imul X.1 X.2.1 hd (k p l e s m args below meth c D dA b X HH locs lsr hP hS hL)
theorem ew_iand {x y : Int32} (hd : decode M.2.1 pc = .ok (.iand, 1)) (k : ex_W M d mc ms post H (pc + 1) ls (.int (x &&& y) :: st) cells slots) : ex_W M d mc ms post H pc ls (.int y :: .int x :: st) cells slots := by
  intro p l e s m args below meth c D dA b X HH locs lsr hP hS hL
  exact lv_iand X.1 X.2.1 hd (k p l e s m args below meth c D dA b X HH locs lsr hP hS hL)
theorem ew_ior {x y : Int32} (hd : decode M.2.1 pc = .ok (.ior, 1)) (k : ex_W M d mc ms post H (pc + 1) ls (.int (x ||| y) :: st) cells slots) : ex_W M d mc ms post H pc ls (.int y :: .int x :: st) cells slots := by
  intro p l e s m args below meth c D dA b X HH locs lsr hP hS hL
  exact lv_ior X.1 X.2.1 hd (k p l e s m args below meth c D dA b X HH locs lsr hP hS hL)
theorem ew_ixor {x y : Int32} (hd : decode M.2.1 pc = .ok (.ixor, 1)) (k : ex_W M d mc ms post H (pc + 1) ls (.int (x ^^^ y) :: st) cells slots) : ex_W M d mc ms post H pc ls (.int y :: .int x :: st) cells slots := by
  intro p l e s m args below meth c D dA b X HH locs lsr hP hS hL
  exact lv_ixor X.1 X.2.1 hd (k p l e s m args below meth c D dA b X HH locs lsr hP hS hL)
theorem ew_ishl {x y : Int32} (hd : decode M.2.1 pc = .ok (.ishl, 1)) (k : ex_W M d mc ms post H (pc + 1) ls (.int (x <<< (y &&& 31)) :: st) cells slots) : ex_W M d mc ms post H pc ls (.int y :: .int x :: st) cells slots := by
  intro p l e s m args below meth c D dA b X HH locs lsr hP hS hL
  exact lv_ishl X.1 X.2.1 hd (k p l e s m args below meth c D dA b X HH locs lsr hP hS hL)
theorem ew_ishr {x y : Int32} (hd : decode M.2.1 pc = .ok (.ishr, 1)) (k : ex_W M d mc ms post H (pc + 1) ls (.int (x >>> (y &&& 31)) :: st) cells slots) : ex_W M d mc ms post H pc ls (.int y :: .int x :: st) cells slots := by
  intro p l e s m args below meth c D dA b X HH locs lsr hP hS hL
  exact lv_ishr X.1 X.2.1 hd (k p l e s m args below meth c D dA b X HH locs lsr hP hS hL)
theorem ew_idiv {x y : Int32} (hd : decode M.2.1 pc = .ok (.idiv, 1)) (hne : ¬ y = 0) (k : ex_W M d mc ms post H (pc + 1) ls (.int (x / y) :: st) cells slots) : ex_W M d mc ms post H pc ls (.int y :: .int x :: st) cells slots := by
  intro p l e s m args below meth c D dA b X HH locs lsr hP hS hL
  exact lv_idiv X.1 X.2.1 hd hne (k p l e s m args below meth c D dA b X HH locs lsr hP hS hL)
theorem ew_irem {x y : Int32} (hd : decode M.2.1 pc = .ok (.irem, 1)) (hne : ¬ y = 0) (k : ex_W M d mc ms post H (pc + 1) ls (.int (x - x / y * y) :: st) cells slots) : ex_W M d mc ms post H pc ls (.int y :: .int x :: st) cells slots := by
  intro p l e s m args below meth c D dA b X HH locs lsr hP hS hL
  exact lv_irem X.1 X.2.1 hd hne (k p l e s m args below meth c D dA b X HH locs lsr hP hS hL)
theorem ew_ineg {x : Int32} (hd : decode M.2.1 pc = .ok (.ineg, 1)) (k : ex_W M d mc ms post H (pc + 1) ls (.int (-x) :: st) cells slots) : ex_W M d mc ms post H pc ls (.int x :: st) cells slots := by
  intro p l e s m args below meth c D dA b X HH locs lsr hP hS hL
  exact lv_ineg X.1 X.2.1 hd (k p l e s m args below meth c D dA b X HH locs lsr hP hS hL)
theorem ew_ladd {x y : Int64} (hd : decode M.2.1 pc = .ok (.ladd, 1)) (k : ex_W M d mc ms post H (pc + 1) ls (.long (x + y) :: st) cells slots) : ex_W M d mc ms post H pc ls (.long y :: .long x :: st) cells slots := by
  intro p l e s m args below meth c D dA b X HH locs lsr hP hS hL
  exact lv_ladd X.1 X.2.1 hd (k p l e s m args below meth c D dA b X HH locs lsr hP hS hL)
theorem ew_lmul {x y : Int64} (hd : decode M.2.1 pc = .ok (.lmul, 1)) (k : ex_W M d mc ms post H (pc + 1) ls (.long (x * y) :: st) cells slots) : ex_W M d mc ms post H pc ls (.long y :: .long x :: st) cells slots := by
  intro p l e s m args below meth c D dA b X HH locs lsr hP hS hL
  exact lv_lmul X.1 X.2.1 hd (k p l e s m args below meth c D dA b X HH locs lsr hP hS hL)
theorem ew_lrem {x y : Int64} (hd : decode M.2.1 pc = .ok (.lrem, 1)) (hne : ¬ y = 0) (k : ex_W M d mc ms post H (pc + 1) ls (.long (x - x / y * y) :: st) cells slots) : ex_W M d mc ms post H pc ls (.long y :: .long x :: st) cells slots := by
  intro p l e s m args below meth c D dA b X HH locs lsr hP hS hL
  exact lv_lrem X.1 X.2.1 hd hne (k p l e s m args below meth c D dA b X HH locs lsr hP hS hL)
theorem ew_lcmp {x y : Int64} (hd : decode M.2.1 pc = .ok (.lcmp, 1)) (k : ex_W M d mc ms post H (pc + 1) ls (.int (lg_cmp x y) :: st) cells slots) : ex_W M d mc ms post H pc ls (.long y :: .long x :: st) cells slots := by
  intro p l e s m args below meth c D dA b X HH locs lsr hP hS hL
  exact W.lcmp X.1 X.2.1 hd (k p l e s m args below meth c D dA b X HH locs lsr hP hS hL)
theorem ew_i2l {x : Int32} (hd : decode M.2.1 pc = .ok (.i2l, 1)) (k : ex_W M d mc ms post H (pc + 1) ls (.long x.toInt64 :: st) cells slots) : ex_W M d mc ms post H pc ls (.int x :: st) cells slots := by
  intro p l e s m args below meth c D dA b X HH locs lsr hP hS hL
  exact lv_i2l X.1 X.2.1 hd rfl (k p l e s m args below meth c D dA b X HH locs lsr hP hS hL)
theorem ew_l2i {x : Int64} (hd : decode M.2.1 pc = .ok (.l2i, 1)) (k : ex_W M d mc ms post H (pc + 1) ls (.int x.toInt32 :: st) cells slots) : ex_W M d mc ms post H pc ls (.long x :: st) cells slots := by
  intro p l e s m args below meth c D dA b X HH locs lsr hP hS hL
  exact lv_l2i X.1 X.2.1 hd rfl (k p l e s m args below meth c D dA b X HH locs lsr hP hS hL)
theorem ew_dup {v : Value} (hd : decode M.2.1 pc = .ok (.dup, 1)) (hc : v.category = 1) (k : ex_W M d mc ms post H (pc + 1) ls (v :: v :: st) cells slots) : ex_W M d mc ms post H pc ls (v :: st) cells slots := by
  intro p l e s m args below meth c D dA b X HH locs lsr hP hS hL
  exact lv_dup X.1 X.2.1 hd (by rw [ex_v_cat]; exact hc) (k p l e s m args below meth c D dA b X HH locs lsr hP hS hL)
theorem ew_pop {v : Value} (hd : decode M.2.1 pc = .ok (.pop, 1)) (hc : v.category = 1) (k : ex_W M d mc ms post H (pc + 1) ls (st) cells slots) : ex_W M d mc ms post H pc ls (v :: st) cells slots := by
  intro p l e s m args below meth c D dA b X HH locs lsr hP hS hL
  exact lv_pop X.1 X.2.1 hd (by rw [ex_v_cat]; exact hc) (k p l e s m args below meth c D dA b X HH locs lsr hP hS hL)
theorem ew_dup2 {v w : Value} (hd : decode M.2.1 pc = .ok (.dup2, 1)) (hc : v.category = 1) (hc2 : w.category = 1) (k : ex_W M d mc ms post H (pc + 1) ls (v :: w :: v :: w :: st) cells slots) : ex_W M d mc ms post H pc ls (v :: w :: st) cells slots := by
  intro p l e s m args below meth c D dA b X HH locs lsr hP hS hL
  exact lv_dup2_11 X.1 X.2.1 hd (by rw [ex_v_cat]; exact hc) (by rw [ex_v_cat]; exact hc2) (k p l e s m args below meth c D dA b X HH locs lsr hP hS hL)
theorem ew_aconst_null (hd : decode M.2.1 pc = .ok (.aconst_null, 1)) (k : ex_W M d mc ms post H (pc + 1) ls (.null :: st) cells slots) : ex_W M d mc ms post H pc ls (st) cells slots := by
  intro p l e s m args below meth c D dA b X HH locs lsr hP hS hL
  exact lv_null X.1 X.2.1 hd (k p l e s m args below meth c D dA b X HH locs lsr hP hS hL)
theorem ew_goto {off : Int} {tgt : Nat} (hd : decode M.2.1 pc = .ok (.goto off, 3)) (ht : (pc : Int) + off = (tgt : Int)) (k : ex_W M d mc ms post H (tgt) ls (st) cells slots) : ex_W M d mc ms post H pc ls (st) cells slots := by
  intro p l e s m args below meth c D dA b X HH locs lsr hP hS hL
  exact lv_goto X.1 X.2.1 hd ht (k p l e s m args below meth c D dA b X HH locs lsr hP hS hL)
theorem ew_icmp_eq {x y : Int32} {off : Int} {tgt : Nat} (hd : decode M.2.1 pc = .ok (.if_icmp .eq off, 3)) (ht : (pc : Int) + off = (tgt : Int)) (kt : x = y → ex_W M d mc ms post H tgt ls st cells slots) (kf : ¬ x = y → ex_W M d mc ms post H (pc + 3) ls st cells slots) : ex_W M d mc ms post H pc ls (.int y :: .int x :: st) cells slots := by
  intro p l e s m args below meth c D dA b X HH locs lsr hP hS hL
  exact lv_icmp_eq X.1 X.2.1 hd ht (fun h => kt h p l e s m args below meth c D dA b X HH locs lsr hP hS hL) (fun h => kf h p l e s m args below meth c D dA b X HH locs lsr hP hS hL)
theorem ew_if_eq {x : Int32} {off : Int} {tgt : Nat} (hd : decode M.2.1 pc = .ok (.ifCond .eq off, 3)) (ht : (pc : Int) + off = (tgt : Int)) (kt : x = 0 → ex_W M d mc ms post H tgt ls st cells slots) (kf : ¬ x = 0 → ex_W M d mc ms post H (pc + 3) ls st cells slots) : ex_W M d mc ms post H pc ls (.int x :: st) cells slots := by
  intro p l e s m args below meth c D dA b X HH locs lsr hP hS hL
  exact lv_if_eq X.1 X.2.1 hd ht (fun h => kt h p l e s m args below meth c D dA b X HH locs lsr hP hS hL) (fun h => kf h p l e s m args below meth c D dA b X HH locs lsr hP hS hL)
theorem ew_icmp_lt {x y : Int32} {off : Int} {tgt : Nat} (hd : decode M.2.1 pc = .ok (.if_icmp .lt off, 3)) (ht : (pc : Int) + off = (tgt : Int)) (kt : x < y → ex_W M d mc ms post H tgt ls st cells slots) (kf : ¬ x < y → ex_W M d mc ms post H (pc + 3) ls st cells slots) : ex_W M d mc ms post H pc ls (.int y :: .int x :: st) cells slots := by
  intro p l e s m args below meth c D dA b X HH locs lsr hP hS hL
  exact lv_icmp_lt X.1 X.2.1 hd ht (fun h => kt h p l e s m args below meth c D dA b X HH locs lsr hP hS hL) (fun h => kf h p l e s m args below meth c D dA b X HH locs lsr hP hS hL)
theorem ew_if_lt {x : Int32} {off : Int} {tgt : Nat} (hd : decode M.2.1 pc = .ok (.ifCond .lt off, 3)) (ht : (pc : Int) + off = (tgt : Int)) (kt : x < 0 → ex_W M d mc ms post H tgt ls st cells slots) (kf : ¬ x < 0 → ex_W M d mc ms post H (pc + 3) ls st cells slots) : ex_W M d mc ms post H pc ls (.int x :: st) cells slots := by
  intro p l e s m args below meth c D dA b X HH locs lsr hP hS hL
  exact lv_if_lt X.1 X.2.1 hd ht (fun h => kt h p l e s m args below meth c D dA b X HH locs lsr hP hS hL) (fun h => kf h p l e s m args below meth c D dA b X HH locs lsr hP hS hL)
theorem ew_icmp_gt {x y : Int32} {off : Int} {tgt : Nat} (hd : decode M.2.1 pc = .ok (.if_icmp .gt off, 3)) (ht : (pc : Int) + off = (tgt : Int)) (kt : y < x → ex_W M d mc ms post H tgt ls st cells slots) (kf : ¬ y < x → ex_W M d mc ms post H (pc + 3) ls st cells slots) : ex_W M d mc ms post H pc ls (.int y :: .int x :: st) cells slots := by
  intro p l e s m args below meth c D dA b X HH locs lsr hP hS hL
  exact lv_icmp_gt X.1 X.2.1 hd ht (fun h => kt h p l e s m args below meth c D dA b X HH locs lsr hP hS hL) (fun h => kf h p l e s m args below meth c D dA b X HH locs lsr hP hS hL)
theorem ew_if_gt {x : Int32} {off : Int} {tgt : Nat} (hd : decode M.2.1 pc = .ok (.ifCond .gt off, 3)) (ht : (pc : Int) + off = (tgt : Int)) (kt : 0 < x → ex_W M d mc ms post H tgt ls st cells slots) (kf : ¬ 0 < x → ex_W M d mc ms post H (pc + 3) ls st cells slots) : ex_W M d mc ms post H pc ls (.int x :: st) cells slots := by
  intro p l e s m args below meth c D dA b X HH locs lsr hP hS hL
  exact lv_if_gt X.1 X.2.1 hd ht (fun h => kt h p l e s m args below meth c D dA b X HH locs lsr hP hS hL) (fun h => kf h p l e s m args below meth c D dA b X HH locs lsr hP hS hL)
theorem ew_icmp_le {x y : Int32} {off : Int} {tgt : Nat} (hd : decode M.2.1 pc = .ok (.if_icmp .le off, 3)) (ht : (pc : Int) + off = (tgt : Int)) (kt : x ≤ y → ex_W M d mc ms post H tgt ls st cells slots) (kf : ¬ x ≤ y → ex_W M d mc ms post H (pc + 3) ls st cells slots) : ex_W M d mc ms post H pc ls (.int y :: .int x :: st) cells slots := by
  intro p l e s m args below meth c D dA b X HH locs lsr hP hS hL
  exact lv_icmp_le X.1 X.2.1 hd ht (fun h => kt h p l e s m args below meth c D dA b X HH locs lsr hP hS hL) (fun h => kf h p l e s m args below meth c D dA b X HH locs lsr hP hS hL)
theorem ew_if_le {x : Int32} {off : Int} {tgt : Nat} (hd : decode M.2.1 pc = .ok (.ifCond .le off, 3)) (ht : (pc : Int) + off = (tgt : Int)) (kt : x ≤ 0 → ex_W M d mc ms post H tgt ls st cells slots) (kf : ¬ x ≤ 0 → ex_W M d mc ms post H (pc + 3) ls st cells slots) : ex_W M d mc ms post H pc ls (.int x :: st) cells slots := by
  intro p l e s m args below meth c D dA b X HH locs lsr hP hS hL
  exact lv_if_le X.1 X.2.1 hd ht (fun h => kt h p l e s m args below meth c D dA b X HH locs lsr hP hS hL) (fun h => kf h p l e s m args below meth c D dA b X HH locs lsr hP hS hL)
theorem ew_icmp_ge {x y : Int32} {off : Int} {tgt : Nat} (hd : decode M.2.1 pc = .ok (.if_icmp .ge off, 3)) (ht : (pc : Int) + off = (tgt : Int)) (kt : y ≤ x → ex_W M d mc ms post H tgt ls st cells slots) (kf : ¬ y ≤ x → ex_W M d mc ms post H (pc + 3) ls st cells slots) : ex_W M d mc ms post H pc ls (.int y :: .int x :: st) cells slots := by
  intro p l e s m args below meth c D dA b X HH locs lsr hP hS hL
  exact lv_icmp_ge X.1 X.2.1 hd ht (fun h => kt h p l e s m args below meth c D dA b X HH locs lsr hP hS hL) (fun h => kf h p l e s m args below meth c D dA b X HH locs lsr hP hS hL)
theorem ew_if_ge {x : Int32} {off : Int} {tgt : Nat} (hd : decode M.2.1 pc = .ok (.ifCond .ge off, 3)) (ht : (pc : Int) + off = (tgt : Int)) (kt : 0 ≤ x → ex_W M d mc ms post H tgt ls st cells slots) (kf : ¬ 0 ≤ x → ex_W M d mc ms post H (pc + 3) ls st cells slots) : ex_W M d mc ms post H pc ls (.int x :: st) cells slots := by
  intro p l e s m args below meth c D dA b X HH locs lsr hP hS hL
  exact lv_if_ge X.1 X.2.1 hd ht (fun h => kt h p l e s m args below meth c D dA b X HH locs lsr hP hS hL) (fun h => kf h p l e s m args below meth c D dA b X HH locs lsr hP hS hL)
theorem ew_icmp_ne {x y : Int32} {off : Int} {tgt : Nat} (hd : decode M.2.1 pc = .ok (.if_icmp .ne off, 3)) (ht : (pc : Int) + off = (tgt : Int)) (kt : ¬ x = y → ex_W M d mc ms post H tgt ls st cells slots) (kf : x = y → ex_W M d mc ms post H (pc + 3) ls st cells slots) : ex_W M d mc ms post H pc ls (.int y :: .int x :: st) cells slots := by
  intro p l e s m args below meth c D dA b X HH locs lsr hP hS hL
  exact lv_icmp_ne X.1 X.2.1 hd ht (fun h => kt h p l e s m args below meth c D dA b X HH locs lsr hP hS hL) (fun h => kf h p l e s m args below meth c D dA b X HH locs lsr hP hS hL)
theorem ew_if_ne {x : Int32} {off : Int} {tgt : Nat} (hd : decode M.2.1 pc = .ok (.ifCond .ne off, 3)) (ht : (pc : Int) + off = (tgt : Int)) (kt : ¬ x = 0 → ex_W M d mc ms post H tgt ls st cells slots) (kf : x = 0 → ex_W M d mc ms post H (pc + 3) ls st cells slots) : ex_W M d mc ms post H pc ls (.int x :: st) cells slots := by
  intro p l e s m args below meth c D dA b X HH locs lsr hP hS hL
  exact lv_if_ne X.1 X.2.1 hd ht (fun h => kt h p l e s m args below meth c D dA b X HH locs lsr hP hS hL) (fun h => kf h p l e s m args below meth c D dA b X HH locs lsr hP hS hL)
theorem ew_ifnull {off : Int} {tgt : Nat} {v : Option Nat} (hd : decode M.2.1 pc = .ok (.ifnull off, 3)) (ht : (pc : Int) + off = (tgt : Int)) (kt : v = none → ex_W M d mc ms post H tgt ls st cells slots) (kf : ∀ a, v = some a → ex_W M d mc ms post H (pc + 3) ls st cells slots) : ex_W M d mc ms post H pc ls (va_rf v :: st) cells slots := by
  intro p l e s m args below meth c D dA b X HH locs lsr hP hS hL
  cases v with
  | none => exact lv_ifnullN X.1 X.2.1 hd ht (kt rfl p l e s m args below meth c D dA b X HH locs lsr hP hS hL)
  | some a => exact lv_ifnull X.1 X.2.1 hd (kf a rfl p l e s m args below meth c D dA b X HH locs lsr hP hS hL)
theorem ew_ifnonnull {off : Int} {tgt : Nat} {v : Option Nat} (hd : decode M.2.1 pc = .ok (.ifnonnull off, 3)) (ht : (pc : Int) + off = (tgt : Int)) (kt : ∀ a, v = some a → ex_W M d mc ms post H tgt ls st cells slots) (kf : v = none → ex_W M d mc ms post H (pc + 3) ls st cells slots) : ex_W M d mc ms post H pc ls (va_rf v :: st) cells slots := by
  intro p l e s m args below meth c D dA b X HH locs lsr hP hS hL
  cases v with
  | none => exact lv_ifnonnullN X.1 X.2.1 hd (kf rfl p l e s m args below meth c D dA b X HH locs lsr hP hS hL)
  | some a => exact lv_ifnonnull X.1 X.2.1 hd ht (kt a rfl p l e s m args below meth c D dA b X HH locs lsr hP hS hL)
theorem ew_tableIn {dflt lo hi : Int} {offs : Array Int} {len : Nat} {x : Int32} {off : Int} {tgt : Nat} (hd : decode M.2.1 pc = .ok (.tableswitch dflt lo hi offs, len)) (h1 : ¬ x.toInt < lo) (h2 : ¬ hi < x.toInt) (ho : offs[(x.toInt - lo).toNat]? = some off) (ht : (pc : Int) + off = (tgt : Int)) (k : ex_W M d mc ms post H tgt ls st cells slots) : ex_W M d mc ms post H pc ls (.int x :: st) cells slots := by
  intro p l e s m args below meth c D dA b X HH locs lsr hP hS hL
  exact lv_tableIn X.1 X.2.1 hd h1 h2 ho ht (k p l e s m args below meth c D dA b X HH locs lsr hP hS hL)
theorem ew_tableOut {dflt lo hi : Int} {offs : Array Int} {len : Nat} {x : Int32} {tgt : Nat} (hd : decode M.2.1 pc = .ok (.tableswitch dflt lo hi offs, len)) (h : x.toInt < lo ∨ hi < x.toInt) (ht : (pc : Int) + dflt = (tgt : Int)) (k : ex_W M d mc ms post H tgt ls st cells slots) : ex_W M d mc ms post H pc ls (.int x :: st) cells slots := by
  intro p l e s m args below meth c D dA b X HH locs lsr hP hS hL
  exact lv_tableOut X.1 X.2.1 hd h ht (k p l e s m args below meth c D dA b X HH locs lsr hP hS hL)
theorem ew_lookup {dflt : Int} {ps : Array (Int × Int)} {len : Nat} {x : Int32} {off : Int} {tgt : Nat} (hd : decode M.2.1 pc = .ok (.lookupswitch dflt ps, len)) (hp : (ps.toList.zip (ps.toList.drop 1)).all (fun (a, next) => a.1 < next.1) = true) (ho : Op.lookupswitch.offset ps.toList dflt x.toInt = off) (ht : (pc : Int) + off = (tgt : Int)) (k : ex_W M d mc ms post H tgt ls st cells slots) : ex_W M d mc ms post H pc ls (.int x :: st) cells slots := by
  intro p l e s m args below meth c D dA b X HH locs lsr hP hS hL
  exact lv_lookup X.1 X.2.1 hd hp ho ht (k p l e s m args below meth c D dA b X HH locs lsr hP hS hL)
/-- a field, by the class's number and the field's place -/
def ex_F (own : String) (idx ci j : Nat) (ty : FieldType) (fin : Bool) : Prop := ∃ (C : String) (T : u_T) (N : Nat) (t0 : Nat → FieldType), vwCl[ci]? = some (C, T, N) ∧ j < N ∧ (∀ w ∈ u_ws C T N, w ∈ ex_g) ∧ (∀ k, k < N → parseFieldDescriptor (T k).2.2.1 = some (t0 k)) ∧ (∀ a, a < N → ∀ b, b < N → a ≠ b → (T a).2.1 ≠ (T b).2.1) ∧ t0 j = ty ∧ (T j).2.2.2 = fin ∧ (T j).1 = C ∧ Cond.fieldLink own idx (T j).1 (T j).2.1 (T j).2.2.1 ∈ ex_g
theorem ew_get {idx ci j a : Nat} {ty : FieldType} {fin : Bool} {fs : List Value} {v : Value} (hd : decode M.2.1 pc = .ok (.getfield idx, 3)) (hF : ex_F M.1.cls idx ci j ty fin) (hH : H[a]? = some (ob ci fs)) (hv : fs[j]? = some v) (k : ex_W M d mc ms post H (pc + 3) ls (v :: st) cells slots) : ex_W M d mc ms post H pc ls (.ref a :: st) cells slots := by
  intro p l e s m args below meth c D dA b X HH locs lsr hP hS hL
  obtain ⟨C, T, N, t0, h1, h2, h3, h4, h5, h6, h7, h8, h9⟩ := hF
  refine va_get (D := D) (cl := vwCl) (ws := [(b.1 + a, .inr (ci, fs.map (ex_v b)))]) X.1 X.2.1 X.2.2.2.2.2.2.2.1 h3 X.2.2.2.2.2.1 X.2.2.2.2.2.2.2.2.1.1 (fun q0 q hq => ?_) 0 rfl h1 j h2 (X.2.2.2.2.2.2.2.1 _ h9) (fun _ h => h) (v := ex_v b v) (by rw [List.getElem?_map, hv]; rfl) hd (k p l e s m args below meth c D dA b X HH locs lsr hP hS hL)
  cases q0 with
  | zero => cases hq; exact hP.2 a _ hH
  | succ q0 => simp at hq
theorem ex_fit {ty : FieldType} {v : Value} (b : ex_B) (h : narrow ty v = v ∧ fits ty v = true ∧ ∀ a, v ≠ .retAddr a) : narrow ty (ex_v b v) = ex_v b v ∧ fits ty (ex_v b v) = true := by
  cases v with
  | ref a => exact ⟨by cases ty <;> rfl, by have := h.2.1; cases ty <;> first | rfl | (simp [fits] at this)⟩
  | retAddr a => exact absurd rfl (h.2.2 a)
  | _ => exact ⟨h.1, h.2.1⟩
theorem ew_put {idx ci j a : Nat} {ty : FieldType} {fs : List Value} {v : Value} (hd : decode M.2.1 pc = .ok (.putfield idx, 3)) (hF : ex_F M.1.cls idx ci j ty false) (hH : H[a]? = some (ob ci fs)) (hl : j < fs.length) (hv : narrow ty v = v ∧ fits ty v = true ∧ ∀ a, v ≠ .retAddr a) (k : ex_W M d mc ms post (H.set a (ob ci (fs.set j v))) (pc + 3) ls st cells slots) : ex_W M d mc ms post H pc ls (v :: .ref a :: st) cells slots := by
  intro p l e s m args below meth c D dA b X HH locs lsr hP hS hL
  obtain ⟨C, T, N, t0, h1, h2, h3, h4, h5, h6, h7, h8, h9⟩ := hF
  have hts := X.2.2.2.2.2.2.2.1
  have hK := X.2.2.2.2.2.2.2.2.1.1
  have hown := X.2.2.2.2.2.1
  have hap := va_apart (own := M.1.cls) hts h3 t0 h4 h5 hK h1
  obtain ⟨r, g1, cell, q1, q2, q3, q4⟩ := hP.2 a _ hH
  have hr : r = (C, T, N) := Option.some.inj (g1.symm.trans h1)
  subst hr
  obtain ⟨hS1, hfc, kC, hkC, hkind⟩ := hK.1 ci _ h1
  obtain ⟨cf, kf, fi, f, hi, hsl⟩ := hS1 j h2
  have hlay := hts _ (h3 _ (u_in_lay h2))
  unfold u_lay at hlay
  rw [if_neg (by rw [h7]; decide)] at hlay
  have hst := (u_facts hfc hkC (u_lays hts h3 h2) hi).1
  obtain ⟨v1, v2⟩ := ex_fit b hv
  have hp6 : parseFieldDescriptor (T j).2.2.1 = some ty := by rw [← h6]; exact h4 j h2
  have g6 := u_store hfc hkC hkind hlay hi hp6 v1 v2
  refine W.putK X.1 X.2.1 (f := f) ⟨hown, hts _ h9, ⟨_, _, _, hi⟩, hst⟩ (by rw [q2]; exact g6) q1 q3 (by rw [hsl]; exact k2_hasslot (q4 j h2)) rfl rfl hd fun H1 e1 e2 e3 => ?_
  rw [hsl] at e1 ⊢
  refine k p l e s m args below meth c D dA b X H1 _ lsr (hP.set hH e2 e3 ?_) (hS.put e2 e3 (Nat.le_add_right _ _)) hL
  refine ⟨_, h1, t_OB.to (V := updV (vp_V (fs.map (ex_v b))) j (ex_v b v)) ⟨_, e1, q2, q3, t_set q4 hap h2 (ex_v b v)⟩ (fun i _ => ?_)⟩
  rw [vp_updV_set (by rw [List.length_map]; exact hl), List.map_set]
theorem ew_putF {idx ci j a : Nat} {ty : FieldType} {fs : List Value} {v : Value} (hd : decode M.2.1 pc = .ok (.putfield idx, 3)) (hF : ex_F M.1.cls idx ci j ty true) (hin : M.1.name = "<init>") (hC : (vwCl[ci]?).map (fun q => q.1) = some M.1.cls) (hH : H[a]? = some (ob ci fs)) (hl : j < fs.length) (hv : narrow ty v = v ∧ fits ty v = true ∧ ∀ a, v ≠ .retAddr a) (k : ex_W M d mc ms post (H.set a (ob ci (fs.set j v))) (pc + 3) ls st cells slots) : ex_W M d mc ms post H pc ls (v :: .ref a :: st) cells slots := by
  intro p l e s m args below meth c D dA b X HH locs lsr hP hS hL
  obtain ⟨C, T, N, t0, h1, h2, h3, h4, h5, h6, h7, h8, h9⟩ := hF
  have hts := X.2.2.2.2.2.2.2.1
  have hK := X.2.2.2.2.2.2.2.2.1.1
  have hown := X.2.2.2.2.2.1
  have hap := va_apart (own := M.1.cls) hts h3 t0 h4 h5 hK h1
  obtain ⟨r, g1, cell, q1, q2, q3, q4⟩ := hP.2 a _ hH
  have hr : r = (C, T, N) := Option.some.inj (g1.symm.trans h1)
  subst hr
  obtain ⟨hS1, hfc, kC, hkC, hkind⟩ := hK.1 ci _ h1
  obtain ⟨cf, kf, fi, f, hi, hsl⟩ := hS1 j h2
  have hlay := hts _ (h3 _ (u_in_lay h2))
  unfold u_lay at hlay
  rw [if_pos h7] at hlay
  have hst := (u_facts hfc hkC (u_lays hts h3 h2) hi).1
  have hdecl : (T j).1 = M.1.cls := by
    rw [h1] at hC
    rw [h8]
    exact Option.some.inj hC
  have hcf : m.cls = cf := by
    obtain ⟨_, _, c', _, _, _, -, -, hf', -, -, -, hown2, -⟩ := Cond.laysFinal_spec hlay
    have e1 : c' = cf := by have := hi.symm.trans hf'; simp at this; exact this.1.symm
    rw [hdecl] at hown2
    rw [← e1]; exact Option.some.inj (hown.symm.trans hown2)
  obtain ⟨v1, v2⟩ := ex_fit b hv
  have hp6 : parseFieldDescriptor (T j).2.2.1 = some ty := by rw [← h6]; exact h4 j h2
  have g6 := u_fits hfc hkC hkind (Or.inr hlay) hi hp6 v1 v2
  refine W.putFinK X.1 X.2.1 hown (hts _ h9) hi hst hcf (X.2.2.2.2.2.2.1.trans hin) (by rw [q2]; exact g6) q1 q3 (by rw [hsl]; exact k2_hasslot (q4 j h2)) rfl rfl hd fun H1 e1 e2 e3 => ?_
  rw [hsl] at e1 ⊢
  refine k p l e s m args below meth c D dA b X H1 _ lsr (hP.set hH e2 e3 ?_) (hS.put e2 e3 (Nat.le_add_right _ _)) hL
  refine ⟨_, h1, t_OB.to (V := updV (vp_V (fs.map (ex_v b))) j (ex_v b v)) ⟨_, e1, q2, q3, t_set q4 hap h2 (ex_v b v)⟩ (fun i _ => ?_)⟩
  rw [vp_updV_set (by rw [List.length_map]; exact hl), List.map_set]
/-- an index: the number j, below n -/
def ex_ix (i : Int32) (n j : Nat) : Prop := i = nI j ∧ j < n ∧ n < 2 ^ 31
theorem ex_ix.in {i : Int32} {n j : Nat} (h : ex_ix i n j) : vp_in i n := by rw [h.1]; exact vp_in_nI h.2.1 h.2.2
theorem ex_ix.at {i : Int32} {n j : Nat} (h : ex_ix i n j) : i.toNatClampNeg = j := by rw [h.1]; exact nI_clamp (Nat.lt_trans h.2.1 h.2.2)
theorem ew_iald {a n : Nat} {f : Nat → Int32} {i : Int32} (j : Nat) (hd : decode M.2.1 pc = .ok (.iaload, 1)) (hH : H[a]? = some (ar .int n f)) (hi : ex_ix i n j) (k : ex_W M d mc ms post H (pc + 1) ls (.int (f j) :: st) cells slots) : ex_W M d mc ms post H pc ls (.int i :: .ref a :: st) cells slots := by
  intro p l e s m args below meth c D dA b X HH locs lsr hP hS hL
  have hk := k p l e s m args below meth c D dA b X HH locs lsr hP hS hL
  have e0 := hi.at
  subst e0
  exact va_iald (D := D) (cl := vwCl) (ws := [(b.1 + a, .inl (dA .int, n, .inl f))]) X.1 X.2.1 X.2.2.2.2.2.2.2.2.1.1 (fun q0 q hq => by
    cases q0 with
    | zero => cases hq; exact hP.2 a _ hH
    | succ q0 => simp at hq) 0 0 rfl rfl hi.in hd hk
theorem ew_zald {a n : Nat} {f : Nat → Int32} {i : Int32} (j : Nat) (hd : decode M.2.1 pc = .ok (.baload, 1)) (hH : H[a]? = some (ar .boolean n f)) (hi : ex_ix i n j) (k : ex_W M d mc ms post H (pc + 1) ls (.int (f j) :: st) cells slots) : ex_W M d mc ms post H pc ls (.int i :: .ref a :: st) cells slots := by
  intro p l e s m args below meth c D dA b X HH locs lsr hP hS hL
  have hk := k p l e s m args below meth c D dA b X HH locs lsr hP hS hL
  have e0 := hi.at
  subst e0
  exact va_zald (D := D) (cl := vwCl) (ws := [(b.1 + a, .inl (dA .boolean, n, .inl f))]) X.1 X.2.1 X.2.2.2.2.2.2.2.2.1.1 (fun q0 q hq => by
    cases q0 with
    | zero => cases hq; exact hP.2 a _ hH
    | succ q0 => simp at hq) 0 1 rfl rfl hi.in hd hk
theorem ew_iast {a n : Nat} {f : Nat → Int32} {i x : Int32} (j : Nat) (hd : decode M.2.1 pc = .ok (.iastore, 1)) (hH : H[a]? = some (ar .int n f)) (hi : ex_ix i n j) (k : ex_W M d mc ms post (H.set a (ar .int n (upd f j x))) (pc + 1) ls st cells slots) : ex_W M d mc ms post H pc ls (.int x :: .int i :: .ref a :: st) cells slots := by
  intro p l e s m args below meth c D dA b X HH locs lsr hP hS hL
  have hin := hi.in
  have e0 := hi.at
  subst e0
  refine W.iast X.1 X.2.1 (hP.2 a _ hH) ((X.2.2.2.2.2.2.2.2.1.1.2 0 _ rfl).1 n (fun j => .int (f j))) (fun q => by cases q) (by show ¬ (i < 0 ∨ (arrV _ _ _).slots.size ≤ _); rw [arrV_size]; exact hin) rfl rfl hd fun H1 e z oq => ?_
  refine k p l _ s m args below meth c D dA b X H1 _ lsr (hP.set hH z oq ?_) (hS.put z oq (Nat.le_add_right _ _)) hL
  show H1[b.1 + a]? = some (vp_cell _ _)
  rw [e]
  show some ((vp_cell (dA .int) (n, .inl f)).setSlot _ _) = some (vp_cell (dA .int) (n, .inl (upd f _ x)))
  rw [vp_cell_i, vp_cell_i, arrV_store]
  congr 2
  funext q
  by_cases hq : q = i.toNatClampNeg
  · subst hq
    simp [updV, upd]
  · simp [updV, upd, hq]
theorem ew_zast {a n : Nat} {f : Nat → Int32} {i x : Int32} (j : Nat) (hd : decode M.2.1 pc = .ok (.bastore, 1)) (hH : H[a]? = some (ar .boolean n f)) (hi : ex_ix i n j) (hx : x &&& 1 = x) (k : ex_W M d mc ms post (H.set a (ar .boolean n (upd f j x))) (pc + 1) ls st cells slots) : ex_W M d mc ms post H pc ls (.int x :: .int i :: .ref a :: st) cells slots := by
  intro p l e s m args below meth c D dA b X HH locs lsr hP hS hL
  have hin := hi.in
  have e0 := hi.at
  subst e0
  refine W.zast X.1 X.2.1 (hP.2 a _ hH) ((X.2.2.2.2.2.2.2.2.1.1.2 1 _ rfl).1 n (fun j => .int (f j))) (fun q => by cases q) (by show ¬ (i < 0 ∨ (arrV _ _ _).slots.size ≤ _); rw [arrV_size]; exact hin) rfl rfl hd fun H1 e z oq => ?_
  refine k p l _ s m args below meth c D dA b X H1 _ lsr (hP.set hH z oq ?_) (hS.put z oq (Nat.le_add_right _ _)) hL
  show H1[b.1 + a]? = some (vp_cell _ _)
  rw [e]
  show some ((vp_cell (dA .boolean) (n, .inl f)).setSlot _ (.int (x &&& 1))) = some (vp_cell (dA .boolean) (n, .inl (upd f _ x)))
  rw [hx, vp_cell_i, vp_cell_i, arrV_store]
  congr 2
  funext q
  by_cases hq : q = i.toNatClampNeg
  · subst hq
    simp [updV, upd]
  · simp [updV, upd, hq]
theorem ex_v_rf (b : ex_B) (r : Option Nat) : ex_v b (va_rf r) = va_rf (r.map (fun k => b.1 + k)) := by cases r <;> rfl
/-- the place of an array class of references in ex_tys -/
def ex_rt (C : String) (t0 : Nat) : Prop := ∀ dA : FieldType → ClassId, (ex_tys dA)[t0]? = some (dA (.object C), .object C)
theorem ew_aald {a n t0 : Nat} {C : String} {f : Nat → Option Nat} {i : Int32} (j : Nat) (hd : decode M.2.1 pc = .ok (.aaload, 1)) (hH : H[a]? = some (rr C n f)) (hC : ex_rt C t0) (hi : ex_ix i n j) (k : ex_W M d mc ms post H (pc + 1) ls (va_rf (f j) :: st) cells slots) : ex_W M d mc ms post H pc ls (.int i :: .ref a :: st) cells slots := by
  intro p l e s m args below meth c D dA b X HH locs lsr hP hS hL
  have hk := k p l e s m args below meth c D dA b X HH locs lsr hP hS hL
  have e0 := hi.at
  subst e0
  rw [List.map_cons, ex_v_rf] at hk
  exact va_aldq (D := D) (cl := vwCl) (ws := [(b.1 + a, .inl (dA (.object C), n, .inr (.inr (.inr (.inr (fun j => (f j).map (fun k => b.1 + k)))))))]) X.1 X.2.1 X.2.2.2.2.2.2.2.2.1.1 (fun q0 q hq => by
    cases q0 with
    | zero => cases hq; exact hP.2 a _ hH
    | succ q0 => simp at hq) 0 t0 rfl (hC dA) hi.in hd hk
theorem ew_aast {a n t0 v ci : Nat} {C : String} {f : Nat → Option Nat} {i : Int32} {vs : List Value} (j : Nat) (hd : decode M.2.1 pc = .ok (.aastore, 1)) (hH : H[a]? = some (rr C n f)) (hC : ex_rt C t0) (hV : H[v]? = some (ob ci vs)) (hc : (vwCl[ci]?).map (fun q => q.1) = some C) (hi : ex_ix i n j) (k : ex_W M d mc ms post (H.set a (rr C n (va_up f j (some v)))) (pc + 1) ls st cells slots) : ex_W M d mc ms post H pc ls (.ref v :: .int i :: .ref a :: st) cells slots := by
  intro p l e s m args below meth c D dA b X HH locs lsr hP hS hL
  have hin := hi.in
  have e0 := hi.at
  subst e0
  have hK := X.2.2.2.2.2.2.2.2.1.1
  have hlt : i.toNatClampNeg < n := Nat.not_le.mp fun q => hin (Or.inr q)
  have h0 : ¬ i < 0 := fun q => hin (Or.inl q)
  obtain ⟨r, hr⟩ : ∃ r, vwCl[ci]? = some r := by
    cases h : vwCl[ci]? with
    | none => rw [h] at hc; cases hc
    | some r => exact ⟨r, rfl⟩
  have hrC : r.1 = C := by rw [hr] at hc; exact Option.some.inj hc
  obtain ⟨r', hr', cellV, g1, g2, g3, -⟩ := hP.2 v _ hV
  have hcls := (hK.1 ci r hr).2
  obtain ⟨kA, comp, k1, k2, k3, -⟩ := (hK.2 t0 _ (hC dA)).2
  have hcomp : comp = D.1 ci := Option.some.inj (k3.symm.trans (by rw [← hrC]; exact hcls.1))
  subst hcomp
  obtain ⟨kC, hkC, -⟩ := hcls.2
  refine W.aast X.1 X.2.1 (hP.2 a _ hH) (fun q h => by cases h) (fun h => by cases h) k1 k2 rfl hkC ⟨h0, by show _ < (arrV _ _ _).slots.size; rw [arrV_size]; exact hlt⟩ g1 (fun q h => by rw [g3] at h; cases h) (by rw [g2]; exact hkC) (by rw [g2]; exact va_assign hcls) rfl rfl hd fun H1 e z oq => ?_
  refine k p l _ s m args below meth c D dA b X H1 _ lsr (hP.set hH z oq ?_) (hS.put z oq (Nat.le_add_right _ _)) hL
  show H1[b.1 + a]? = some (vp_cell _ _)
  rw [e]
  show some ((vp_cell (dA (.object C)) (n, .inr (.inr (.inr (.inr (fun j => (f j).map (fun k => b.1 + k))))))).setSlot _ _) = some (vp_cell (dA (.object C)) (n, .inr (.inr (.inr (.inr (fun j => (va_up f _ (some v) j).map (fun k => b.1 + k)))))))
  rw [vp_cell_q, vp_cell_q, arrV_store]
  congr 2
  funext q
  by_cases hq : q = i.toNatClampNeg
  · subst hq
    simp [updV, va_up, va_rf]
  · simp [updV, va_up, hq]
theorem ew_alen {a n : Nat} {ty : FieldType} {t0 : Nat} {f : Nat → Int32} (hd : decode M.2.1 pc = .ok (.arraylength, 1)) (hH : H[a]? = some (ar ty n f)) (ht : ∀ dA : FieldType → ClassId, (ex_tys dA)[t0]? = some (dA ty, ty)) (k : ex_W M d mc ms post H (pc + 1) ls (.int (nI n) :: st) cells slots) : ex_W M d mc ms post H pc ls (.ref a :: st) cells slots := by
  intro p l e s m args below meth c D dA b X HH locs lsr hP hS hL
  exact va_alen (D := D) (cl := vwCl) (ws := [(b.1 + a, .inl (dA ty, n, .inl f))]) X.1 X.2.1 X.2.2.2.2.2.2.2.2.1.1 (fun q0 q hq => by
    cases q0 with
    | zero => cases hq; exact hP.2 a _ hH
    | succ q0 => simp at hq) 0 t0 rfl (ht dA) rfl hd (k p l e s m args below meth c D dA b X HH locs lsr hP hS hL)
/-- the script -/
theorem ew_sld {a L : Nat} {xs : Nat → Int32} {i : Int32} (j : Nat) (hd : decode M.2.1 pc = .ok (.iaload, 1)) (hM : M.2.2.2.2 = some (L, xs)) (hi : ex_ix i L j) (k : ex_W M d mc ms post H (pc + 1) ls (.int (xs j) :: st) cells slots) : ex_W M d mc ms post H pc ls (.int i :: .retAddr a :: st) cells slots := by
  intro p l e s m args below meth c D dA b X HH locs lsr hP hS hL
  have hk := k p l e s m args below meth c D dA b X HH locs lsr hP hS hL
  have e0 := hi.at
  subst e0
  obtain ⟨x1, x2, x3⟩ := X.2.2.2.2.2.2.2.2.2 L xs hM
  exact va_sld X.1 X.2.1 x1 x2 (Nat.not_le.mpr x3) hS hi.in hd hk
theorem ew_slen {a L : Nat} {xs : Nat → Int32} (hd : decode M.2.1 pc = .ok (.arraylength, 1)) (hM : M.2.2.2.2 = some (L, xs)) (k : ex_W M d mc ms post H (pc + 1) ls (.int (nI L) :: st) cells slots) : ex_W M d mc ms post H pc ls (.retAddr a :: st) cells slots := by
  intro p l e s m args below meth c D dA b X HH locs lsr hP hS hL
  obtain ⟨x1, x2, x3⟩ := X.2.2.2.2.2.2.2.2.2 L xs hM
  exact va_slen X.1 X.2.1 x1 x2 (Nat.not_le.mpr x3) hS hd (k p l e s m args below meth c D dA b X HH locs lsr hP hS hL)

/-- a class that is made: its number, its size, its fields at first -/
def ex_N (own : String) (idx ci N : Nat) (fs : List Value) : Prop := ∃ (C : String) (T : u_T) (t0 : Nat → FieldType), vwCl[ci]? = some (C, T, N) ∧ (∀ w ∈ u_ws C T N, w ∈ ex_g) ∧ (∀ k, k < N → parseFieldDescriptor (T k).2.2.1 = some (t0 k)) ∧ Cond.classLink own idx C ∈ ex_g ∧ Cond.instantiable C N ∈ ex_g ∧ Cond.initialized C ∈ ex_g ∧ (∀ (b : ex_B) (j : Nat), j < N → defaultValue (t0 j) = vp_V (fs.map (ex_v b)) j)
theorem ew_new {idx ci N : Nat} {fs : List Value} (hd : decode M.2.1 pc = .ok (.new idx, 3)) (hN : ex_N M.1.cls idx ci N fs) (hc : cells + 1 ≤ mc) (hs : slots + N ≤ ms) (k : ex_W M d mc ms post (H ++ [ob ci fs]) (pc + 3) ls (.ref H.length :: st) (cells + 1) (slots + N)) : ex_W M d mc ms post H pc ls st cells slots := by
  intro p l e s m args below meth c D dA b X HH locs lsr hP hS hL
  obtain ⟨C, T, t0, h1, h2, h3, h4, h5, h6, h7⟩ := hN
  have hts := X.2.2.2.2.2.2.2.1
  have hKn := X.2.2.2.2.2.2.2.2.1.1.1 ci _ h1
  refine W.newcK X.1 X.2.1 X.2.2.2.2.2.1 (hts _ h4) (hts _ h5) (hts _ h6) rfl hd hc hs hKn.2.1 rfl fun H1 kC hkC e1 z1 o1 => ?_
  have e2 : HH.size = b.1 + H.length := hP.1
  have hk := k p l e s m args below meth c D dA b X H1 locs lsr (hP.push z1 o1 ?_) ⟨Nat.le_trans hS.1 (by omega), fun x g1 g2 => (o1 x (Nat.lt_of_lt_of_le g1 hS.1)).trans (hS.2.1 x g1 g2), hS.2.2⟩ hL
  · have e3 : F0 m (pc + 3) lsr ((Value.ref H.length :: st).map (ex_v b)) = F0 m (pc + 3) lsr (.ref HH.size :: st.map (ex_v b)) := by rw [e2]; rfl
    rw [e3] at hk
    exact hk
  · rw [← e2]
    exact ⟨_, h1, (u_born t0 hts h2 hKn hkC e1 h3).to (h7 b)⟩
theorem ew_newa {atype : ArrayType} {ty : FieldType} {n : Int32} {N t0 : Nat} (hd : decode M.2.1 pc = .ok (.newarray atype, 2)) (hty : newarray.typeOf atype = ty) (hw : Cond.arrayClass ty ∈ ex_g) (ht : ∀ dA : FieldType → ClassId, (ex_tys dA)[t0]? = some (dA ty, ty)) (hr : ∀ C, ty ≠ .object C) (hdv : defaultValue ty = .int 0) (hn : ¬ n < 0) (hN : n.toNatClampNeg = N) (hbytes : N * componentBytes ty ≤ 536870912) (hc : cells + 1 ≤ mc) (hs : slots + N ≤ ms) (k : ex_W M d mc ms post (H ++ [ar ty N (fun _ => 0)]) (pc + 2) ls (.ref H.length :: st) (cells + 1) (slots + N)) : ex_W M d mc ms post H pc ls (.int n :: st) cells slots := by
  intro p l e s m args below meth c D dA b X HH locs lsr hP hS hL
  subst hty
  have hts := X.2.2.2.2.2.2.2.1
  refine va_newaK X.1 X.2.1 (hts _ hw) rfl hd rfl hn hN hbytes hc hs rfl fun H1 cA e1 z1 o1 hAr hNm => ?_
  have hA : cA = dA (newarray.typeOf atype) := by
    have h := (X.2.2.2.2.2.2.2.2.1.1.2 t0 _ (ht dA)).2
    generalize newarray.typeOf atype = ty at h hNm hr
    cases ty with
    | object C => exact absurd rfl (hr C)
    | _ => exact Option.some.inj (hNm.symm.trans h)
  have e2 : HH.size = b.1 + H.length := hP.1
  have hk := k p l e s m args below meth c D dA b X H1 locs lsr (hP.push z1 o1 ?_) ⟨Nat.le_trans hS.1 (by omega), fun x g1 g2 => (o1 x (Nat.lt_of_lt_of_le g1 hS.1)).trans (hS.2.1 x g1 g2), hS.2.2⟩ hL
  · have e3 : F0 m (pc + 2) lsr ((Value.ref H.length :: st).map (ex_v b)) = F0 m (pc + 2) lsr (.ref HH.size :: st.map (ex_v b)) := by rw [e2]; rfl
    rw [e3] at hk
    exact hk
  · rw [← e2]
    show H1[HH.size]? = some (vp_cell (dA (newarray.typeOf atype)) (N, .inl (fun _ => 0)))
    rw [e1, hA, hdv]
    rfl
theorem ew_anew {idx N t0 : Nat} {C : String} {n : Int32} (hd : decode M.2.1 pc = .ok (.anewarray idx, 3)) (hcl : Cond.classLink M.1.cls idx C ∈ ex_g) (hov : Cond.arrayOver (.object C) ∈ lw_tbl) (hC : ex_rt C t0) (hn : ¬ n < 0) (hN : n.toNatClampNeg = N) (hbytes : N * 4 ≤ 536870912) (hc : cells + 1 ≤ mc) (hs : slots + N ≤ ms) (k : ex_W M d mc ms post (H ++ [rr C N (fun _ => none)]) (pc + 3) ls (.ref H.length :: st) (cells + 1) (slots + N)) : ex_W M d mc ms post H pc ls (.int n :: st) cells slots := by
  intro p l e s m args below meth c D dA b X HH locs lsr hP hS hL
  have hts := X.2.2.2.2.2.2.2.1
  subst hN
  refine W.anew X.1 X.2.1 X.2.2.2.2.2.1 (hts _ hcl) (X.2.2.2.2.2.2.2.2.1.2.2 C hov).use rfl hd rfl hn hbytes hc hs fun cA kA comp f1 f2 f3 f4 => ?_
  have hA : cA = dA (.object C) := by
    obtain ⟨kA', comp', -, -, -, h4⟩ := (X.2.2.2.2.2.2.2.2.1.1.2 t0 _ (hC dA)).2
    exact Option.some.inj (f1.symm.trans h4)
  have e2 : HH.size = b.1 + H.length := hP.1
  have hk := k p l e s m args below meth c D dA b X (HH.push { cls := cA, slots := Array.replicate n.toNatClampNeg .null, vm := .none }) locs lsr (hP.push (by simp) (fun q hq => by rw [Array.getElem?_push, if_neg (Nat.ne_of_lt hq)]) ?_) ⟨Nat.le_trans hS.1 (by simp), fun x g1 g2 => by
    have hx : x < HH.size := Nat.lt_of_lt_of_le g1 hS.1
    rw [Array.getElem?_push, if_neg (Nat.ne_of_lt hx)]
    exact hS.2.1 x g1 g2, hS.2.2⟩ hL
  · have e3 : F0 m (pc + 3) lsr ((Value.ref H.length :: st).map (ex_v b)) = F0 m (pc + 3) lsr (.ref HH.size :: st.map (ex_v b)) := by rw [e2]; rfl
    rw [e3] at hk
    exact hk
  · rw [← e2]
    show (HH.push _)[HH.size]? = some (vp_cell (dA (.object C)) (n.toNatClampNeg, .inr (.inr (.inr (.inr (fun _ => none))))))
    rw [arrV_new, ← hA]
    simp
    rfl
theorem ew_objInit {idx a : Nat} (hd : decode M.2.1 pc = .ok (.invokespecial idx, 3)) (h1 : Cond.methodLink M.1.cls idx Lib.objectInit ∈ ex_g) (h2 : Cond.instanceMethod Lib.objectInit ∈ ex_g) (h3 : Cond.code Lib.objectInit ⟨#[0xb1]⟩ 1 none ∈ ex_g) (hf : 1 ≤ d) (hst : st = []) (k : ex_W M d mc ms post H (pc + 3) ls st cells slots) : ex_W M d mc ms post H pc ls (.ref a :: st) cells slots := by
  intro p l e s m args below meth c D dA b X HH locs lsr hP hS hL
  have hts := X.2.2.2.2.2.2.2.1
  subst hst
  refine W.objInit X.1 X.2.1 X.2.2.2.2.2.1 (hts _ h1) (hts _ h2) (hts _ h3) rfl (hL.1.trans X.2.2.2.2.1.symm) rfl hd hf ?_ (k p l e s m args below meth c D dA b X HH locs lsr hP hS hL)
  show 2 * 0 + 0 + 12 ≤ 38 * d + 4
  omega
/-- what a call needs of the tables -/
def ex_cm (N : ex_M) (n : Nat) : Prop := Cond.code N.1 N.2.1 N.2.2.1 N.2.2.2.1 ∈ ex_g ∧ Cond.initialized N.1.cls ∈ ex_g ∧ (N.1.cls ≠ "java/lang/invoke/MethodHandle" ∧ N.1.cls ≠ "java/lang/invoke/VarHandle" ∧ (parseMethodDescriptor N.1.desc).map (fun d => d.parameters.length) = some n) ∧ N.2.2.1 ≤ 19
theorem ex_good {N : ex_M} {n : Nat} (h : ex_cm N n) : GoodIn ex_g (.code N.1 N.2.1 N.2.2.1 N.2.2.2.1 :: ex_g) := fun w hw => by
  rcases List.mem_cons.mp hw with rfl | hw
  · exact ⟨h.1, ex_g_good _ h.1⟩
  · exact ⟨hw, ex_g_good _ hw⟩
theorem ex_blind (D : va_G) (dA : FieldType → ClassId) (b : ex_B) (H : ex_H) (As : List Value) : FrameBlind (va_Pc (As.map (ex_v b)) (fun U => ex_P D dA b H U.heap ∧ ex_K D dA U)) := fun a U g mk q => ⟨q.1, q.2.1, q.2.2.same rfl⟩
theorem ex_cont {p : Program} {l : Launch} {e : Env} {R : Room} {s : State} {m : MethodId} {args : Array Value} {below : List Frame} {meth : Method} {c : Code} {HH H0 : Heap} {locs : List Loc} {cells slots mc' ms' : Nat} {Q : State → Prop} {D : va_G} {dA : FieldType → ClassId} {b : ex_B} {post' : ex_H → Option Value → Prop} {pc : Nat} {lsr : Array Slot} {st0 rest : List Value} {a : Array Value}
    (hr : va_Run p l e R s m args below meth c HH locs cells slots mc' ms' (F0 m pc lsr st0) rest (ex_Q D dA b post' a) (fun q => b.1 ≤ q)) (hS : va_S (fun q => b.1 ≤ q) H0 HH locs)
    (kk : ∀ (H' : ex_H) (r : Option Value) (H1 : Heap) (locs1 : List Loc), post' H' r → ex_P D dA b H' H1 → va_S (fun q => b.1 ≤ q) H0 H1 locs1 → W p l e R s m args below meth c H1 locs1 (cells + mc') (slots + ms') Q (F0 m (pc + 3) lsr ((r.map (ex_v b)).toList ++ rest))) : W p l e R s m args below meth c HH locs cells slots Q (F0 m pc lsr st0) := by
  intro T hT X
  obtain ⟨v, st₀, t, T', L, h0, X', hL, e1, e2, ⟨⟨H', r, hv, hp, hb⟩, hz, hk⟩, st⟩ := hr T hT X
  have hv : v = r.map (ex_v b) := by simpa using hv
  subst hv
  rw [h0] at hz hk
  obtain ⟨t2, a1, b1⟩ := kk H' r T'.heap (locs ++ L) hp (by rw [e1]; exact hb)
    ⟨Nat.le_trans hS.1 (by rw [e1]; exact hz), fun q h1 h2 => by rw [e1, hk q (Nat.lt_of_lt_of_le h1 hS.1) h2]; exact hS.2.1 q h1 h2, fun q hq => by
      rcases List.mem_append.mp hq with h | h
      · exact hS.2.2 q h
      · exact hL q h⟩ T' rfl X'
  exact ⟨t2, st t2 a1, b1⟩
theorem ex_room (b : ex_B) (st : List Value) (h : (st.map fun v => v.category).sum ≤ 8) : ((st.map (ex_v b)).map fun v => v.category).sum ≤ 8 := by
  have : (st.map (ex_v b)).map (fun v => v.category) = st.map (fun v => v.category) := by
    rw [List.map_map]
    exact List.map_congr_left (fun v _ => ex_v_cat b v)
  rw [this]; exact h
theorem ex_tostack (b : ex_B) (r : Option Value) (st : List Value) : (r.map (ex_v b)).toList ++ st.map (ex_v b) = (r.toList ++ st).map (ex_v b) := by cases r <;> rfl
def ex_V (own : String) (idx : Nat) (N : ex_M) (n : Nat) : Prop := ex_cm N n ∧ Cond.methodLink own idx N.1 ∈ ex_g ∧ Cond.instanceMethod N.1 ∈ ex_g ∧ Cond.selects N.1.cls N.1 N.1 ∈ ex_g
theorem ew_callV {idx n a ci mc' ms' : Nat} {N : ex_M} {As fs : List Value} {post' : ex_H → Option Value → Prop} (hd : decode M.2.1 pc = .ok (.invokevirtual idx, 3)) (hV : ex_V M.1.cls idx N n) (hH : H[a]? = some (ob ci fs)) (hci : (vwCl[ci]?).map (fun q => q.1) = some N.1.cls) (hM : ex_Met N d mc' ms' H (.ref a :: As) post') (hn : As.length = n) (hst : (st.map fun v => v.category).sum ≤ 8) (hc : cells + mc' ≤ mc ∧ slots + ms' ≤ ms) {st0 : List Value} (hs : As.reverse ++ .ref a :: st = st0)
    (k : ∀ (H' : ex_H) (r : Option Value), post' H' r → ex_W M (d + 1) mc ms post H' (pc + 3) ls (r.toList ++ st) (cells + mc') (slots + ms')) : ex_W M (d + 1) mc ms post H pc ls st0 cells slots := by
  intro p l e s m args below meth c D dA b X HH locs lsr hP hS hL
  subst hs
  obtain ⟨hcm, h1, h2, h3⟩ := hV
  have hts := X.2.2.2.2.2.2.2.1
  have hK := X.2.2.2.2.2.2.2.2.1
  obtain ⟨r, hr⟩ : ∃ r, vwCl[ci]? = some r := by
    cases h : vwCl[ci]? with
    | none => rw [h] at hci; cases hci
    | some r => exact ⟨r, rfl⟩
  have hrC : r.1 = N.1.cls := by rw [hr] at hci; exact Option.some.inj hci
  have cb : CallB (ex_R (d + 1) mc ms) s args M.1.cls idx N.1 N.2.1 N.2.2.1 N.2.2.2.1 (.code N.1 N.2.1 N.2.2.1 N.2.2.2.1 :: ex_g) (ex_R d mc' ms') mc' ms' n :=
    callB_of n hts (ex_good hcm) rfl rfl rfl (hts _ hcm.2.1) (hts _ h1) hcm.2.2.1 ⟨Nat.le_refl _, by have := hcm.2.2.2; show 8 + (N.2.2.1 + 11) + (38 * d + 4) ≤ 38 * (d + 1) + 4; omega⟩
  have hrun := va_runV (p := p) (l := l) (e := e) (R := ex_R (d + 1) mc ms) (s := s) (m := m) (args := args) (below := below) (meth := meth) (c := c) (H := HH) (locs := locs) (cells := cells) (slots := slots) (cc := M.2.1) (nL := M.2.2.1) (Ts := ex_g) (own := M.1.cls) (C := N.1.cls) (b := b.1 + a) (As := As.map (ex_v b)) (rest := st.map (ex_v b)) (g := F0 m pc lsr ((As.reverse ++ .ref a :: st).map (ex_v b)))
    ⟨X.1, X.2.1, X.2.2.2.2.1, X.2.2.2.2.2.1, hts⟩ (hM l D dA b) ⟨cb, hts _ h2, hts _ h3⟩
    ⟨ex_blind D dA b H _, by
      obtain ⟨r', g1, cell, q1, q2, q3, q4⟩ := hP.2 a _ hH
      exact ⟨cell, q1, by rw [q3]; rfl, by rw [q2, ← hrC]; exact (hK.1.1 ci r hr).2.1⟩, fun U hU hW => ⟨rfl, by rw [hU]; exact hP, hK.warm hW⟩⟩
    rfl (by rw [List.length_map]; exact hn) hL.1 (by show (As.reverse ++ .ref a :: st).map (ex_v b) = _; rw [List.map_append, List.map_reverse]; rfl) (lv_room (ex_room b st hst)) hd hc
  refine ex_cont hrun hS (fun H' r H1 locs1 hp hP1 hS1 => ?_)
  have hk := k H' r hp p l e s m args below meth c D dA b X H1 locs1 lsr hP1 hS1 hL
  rw [← ex_tostack] at hk
  exact hk
def ex_S (own : String) (idx : Nat) (N : ex_M) (n : Nat) : Prop := ex_cm N n ∧ Cond.static N.1 ∈ ex_g ∧ (Cond.methodLink own idx N.1 ∈ ex_g ∨ ∃ host, Cond.methodLinkNest own idx N.1 host ∈ lw_tbl)
theorem ew_callS {idx n mc' ms' : Nat} {N : ex_M} {As : List Value} {post' : ex_H → Option Value → Prop} (hd : decode M.2.1 pc = .ok (.invokestatic idx, 3)) (hV : ex_S M.1.cls idx N n) (hM : ex_Met N d mc' ms' H As post') (hn : As.length = n) (hst : (st.map fun v => v.category).sum ≤ 8) (hc : cells + mc' ≤ mc ∧ slots + ms' ≤ ms) {st0 : List Value} (hs : As.reverse ++ st = st0)
    (k : ∀ (H' : ex_H) (r : Option Value), post' H' r → ex_W M (d + 1) mc ms post H' (pc + 3) ls (r.toList ++ st) (cells + mc') (slots + ms')) : ex_W M (d + 1) mc ms post H pc ls st0 cells slots := by
  intro p l e s m args below meth c D dA b X HH locs lsr hP hS hL
  subst hs
  obtain ⟨hcm, h1, h2⟩ := hV
  have hts := X.2.2.2.2.2.2.2.1
  have hK := X.2.2.2.2.2.2.2.2.1
  have hrm : (ex_R d mc' ms').frames + 1 ≤ (ex_R (d + 1) mc ms).frames ∧ 8 + (N.2.2.1 + 11) + (ex_R d mc' ms').locals ≤ (ex_R (d + 1) mc ms).locals := ⟨Nat.le_refl _, by have := hcm.2.2.2; show 8 + (N.2.2.1 + 11) + (38 * d + 4) ≤ 38 * (d + 1) + 4; omega⟩
  have hpre : PreS s HH (va_Pc (As.map (ex_v b)) (fun U => ex_P D dA b H U.heap ∧ ex_K D dA U)) (As.map (ex_v b)) := ⟨ex_blind D dA b H _, fun U hU hW => ⟨rfl, by rw [hU]; exact hP, hK.warm hW⟩⟩
  have hrun : va_Run p l e (ex_R (d + 1) mc ms) s m args below meth c HH locs cells slots mc' ms' (F0 m pc lsr ((As.reverse ++ st).map (ex_v b))) (st.map (ex_v b)) (ex_Q D dA b post' (As.map (ex_v b)).toArray) (fun q => b.1 ≤ q) := by
    rcases h2 with h2 | ⟨host, h2⟩
    · exact va_runS (cc := M.2.1) (nL := M.2.2.1) (Ts := ex_g) (own := M.1.cls) ⟨X.1, X.2.1, X.2.2.2.2.1, X.2.2.2.2.2.1, hts⟩ (hM l D dA b) ⟨callB_of n hts (ex_good hcm) rfl rfl rfl (hts _ hcm.2.1) (hts _ h2) hcm.2.2.1 hrm, hts _ h1⟩ hpre rfl (by rw [List.length_map]; exact hn) hL.1 (by show (As.reverse ++ st).map (ex_v b) = _; rw [List.map_append, List.map_reverse]) (lv_room (ex_room b st hst)) hd hc
    · exact va_runSN (cc := M.2.1) (nL := M.2.2.1) (Ts := ex_g) (own := M.1.cls) ⟨X.1, X.2.1, X.2.2.2.2.1, X.2.2.2.2.2.1, hts⟩ (hM l D dA b) ⟨va_cnB n hts (ex_good hcm) rfl rfl rfl (hK.2.1 _ _ _ _ h2) (hts _ hcm.2.1) hcm.2.2.1 hrm, hts _ h1, trivial⟩ hpre rfl (by rw [List.length_map]; exact hn) hL.1 (by show (As.reverse ++ st).map (ex_v b) = _; rw [List.map_append, List.map_reverse]) (lv_room (ex_room b st hst)) hd hc
  refine ex_cont hrun hS (fun H' r H1 locs1 hp hP1 hS1 => ?_)
  have hk := k H' r hp p l e s m args below meth c D dA b X H1 locs1 lsr hP1 hS1 hL
  rw [← ex_tostack] at hk
  exact hk
def ex_I (own : String) (idx : Nat) (N : ex_M) (n : Nat) : Prop := ex_cm N n ∧ Cond.instanceMethod N.1 ∈ ex_g ∧ N.1.name = "<init>" ∧ N.2.2.2.1 = none ∧ (Cond.methodLink own idx N.1 ∈ ex_g ∨ ∃ host, Cond.methodLinkNest own idx N.1 host ∈ lw_tbl)
theorem ew_callI {idx n a mc' ms' : Nat} {N : ex_M} {As : List Value} {post' : ex_H → Option Value → Prop} (hd : decode M.2.1 pc = .ok (.invokespecial idx, 3)) (hV : ex_I M.1.cls idx N n) (hM : ex_Met N d mc' ms' H (.ref a :: As) post') (hn : As.length = n) (hst : (st.map fun v => v.category).sum ≤ 8) (hc : cells + mc' ≤ mc ∧ slots + ms' ≤ ms) {st0 : List Value} (hs : As.reverse ++ .ref a :: st = st0)
    (k : ∀ (H' : ex_H) (r : Option Value), post' H' r → ex_W M (d + 1) mc ms post H' (pc + 3) ls (r.toList ++ st) (cells + mc') (slots + ms')) : ex_W M (d + 1) mc ms post H pc ls st0 cells slots := by
  intro p l e s m args below meth c D dA b X HH locs lsr hP hS hL
  subst hs
  obtain ⟨hcm, h1, hnm, hrt, h2⟩ := hV
  have hts := X.2.2.2.2.2.2.2.1
  have hK := X.2.2.2.2.2.2.2.2.1
  have hrm : (ex_R d mc' ms').frames + 1 ≤ (ex_R (d + 1) mc ms).frames ∧ 8 + (N.2.2.1 + 11) + (ex_R d mc' ms').locals ≤ (ex_R (d + 1) mc ms).locals := ⟨Nat.le_refl _, by have := hcm.2.2.2; show 8 + (N.2.2.1 + 11) + (38 * d + 4) ≤ 38 * (d + 1) + 4; omega⟩
  have hpre : PreS s HH (va_Pc ((Value.ref a :: As).map (ex_v b)) (fun U => ex_P D dA b H U.heap ∧ ex_K D dA U)) (.ref (b.1 + a) :: As.map (ex_v b)) := ⟨ex_blind D dA b H _, fun U hU hW => ⟨rfl, by rw [hU]; exact hP, hK.warm hW⟩⟩
  have hMl := hM l D dA b
  have hgd := ex_good hcm
  have hcm1 := hcm.1
  rw [hrt] at hMl hgd hcm1
  have hrun : va_Run p l e (ex_R (d + 1) mc ms) s m args below meth c HH locs cells slots mc' ms' (F0 m pc lsr ((As.reverse ++ .ref a :: st).map (ex_v b))) (st.map (ex_v b)) (ex_Q D dA b post' (Value.ref (b.1 + a) :: As.map (ex_v b)).toArray) (fun q => b.1 ≤ q) := by
    rcases h2 with h2 | ⟨host, h2⟩
    · exact va_runI (cc := M.2.1) (nL := M.2.2.1) (Ts := ex_g) (own := M.1.cls) ⟨X.1, X.2.1, X.2.2.2.2.1, X.2.2.2.2.2.1, hts⟩ hMl ⟨callB_of n hts hgd rfl rfl rfl (hts _ hcm.2.1) (hts _ h2) hcm.2.2.1 hrm, hnm, hts _ h1⟩ hpre rfl (by rw [List.length_map]; exact hn) hL.1 (by show (As.reverse ++ .ref a :: st).map (ex_v b) = _; rw [List.map_append, List.map_reverse]; rfl) (lv_room (ex_room b st hst)) hd hc
    · exact va_runIN (cc := M.2.1) (nL := M.2.2.1) (Ts := ex_g) (own := M.1.cls) ⟨X.1, X.2.1, X.2.2.2.2.1, X.2.2.2.2.2.1, hts⟩ hMl ⟨va_cnB n hts hgd rfl rfl rfl (hK.2.1 _ _ _ _ h2) (hts _ hcm.2.1) hcm.2.2.1 hrm, hnm, hts _ h1⟩ hpre rfl (by rw [List.length_map]; exact hn) hL.1 (by show (As.reverse ++ .ref a :: st).map (ex_v b) = _; rw [List.map_append, List.map_reverse]; rfl) (lv_room (ex_room b st hst)) hd hc
  refine ex_cont hrun hS (fun H' r H1 locs1 hp hP1 hS1 => ?_)
  have hk := k H' r hp p l e s m args below meth c D dA b X H1 locs1 lsr hP1 hS1 hL
  rw [← ex_tostack] at hk
  exact hk
theorem ew_iret {v : Int32} {ty : FieldType} (hd : decode M.2.1 pc = .ok (.ireturn, 1)) (hr : M.2.2.2.1 = some ty) (hn : narrow ty (.int v) = .int v) (hc : cells ≤ mc) (hs : slots ≤ ms) (hq : post H (some (.int v))) : ex_W M d mc ms post H pc ls [.int v] cells slots := by
  intro p l e s m args below meth c D dA b X HH locs lsr hP hS hL
  have hlocks := X.2.2.2.1
  refine W.widen hc hs ?_
  exact W.zret X.1 X.2.1 (X.2.2.1.trans hr) hn (fun t ht hW => ⟨⟨H, some (.int v), rfl, hq, by rw [ht]; exact hP⟩, hS.F ht⟩) hS.2.2 hd
theorem ew_vret (hd : decode M.2.1 pc = .ok (.return_, 1)) (hr : M.2.2.2.1 = none) (hc : cells ≤ mc) (hs : slots ≤ ms) (hq : post H none) : ex_W M d mc ms post H pc ls [] cells slots := by
  intro p l e s m args below meth c D dA b X HH locs lsr hP hS hL
  have hlocks := X.2.2.2.1
  refine W.widen hc hs ?_
  exact W.vret X.1 X.2.1 (X.2.2.1.trans hr) (fun t ht hW => ⟨⟨H, none, rfl, hq, by rw [ht]; exact hP⟩, hS.F ht⟩) hS.2.2 hd
theorem ew_aret {v : Option Nat} {C : String} (hd : decode M.2.1 pc = .ok (.areturn, 1)) (hr : M.2.2.2.1 = some (.object C)) (hc : cells ≤ mc) (hs : slots ≤ ms) (hq : post H (some (va_rf v))) : ex_W M d mc ms post H pc ls [va_rf v] cells slots := by
  intro p l e s m args below meth c D dA b X HH locs lsr hP hS hL
  have hlocks := X.2.2.2.1
  refine W.widen hc hs ?_
  exact W.aret X.1 X.2.1 (X.2.2.1.trans hr) (Or.inl ⟨C, rfl⟩) (by cases v with
    | none => exact Or.inl rfl
    | some a => exact Or.inr ⟨_, rfl⟩) (fun t ht hW => ⟨⟨H, some (va_rf v), rfl, hq, by rw [ht]; exact hP⟩, hS.F ht⟩) hS.2.2 hd
end EW
end
section
theorem ex_tw {w : Cond} (i : Nat) (h : tables_1[i]? = some w) (hg : goodWord w = true) : w ∈ ex_g := List.mem_filter.mpr ⟨List.mem_append_right _ (List.mem_of_getElem? h), hg⟩
theorem ex_tn {w : Cond} (i : Nat) (h : tables_1[i]? = some w) : w ∈ lw_tbl := List.mem_append_right _ (List.mem_of_getElem? h)
theorem ex_ts {w : Cond} (i : Nat) (h : (k2_sels lw_privs)[i]? = some w) (hg : goodWord w = true) : w ∈ ex_g := List.mem_filter.mpr ⟨List.mem_append_left _ (List.mem_of_getElem? h), hg⟩
theorem ex_all {ws : List Cond} (h : ws.all (fun w => decide (w ∈ tables_1) && goodWord w) = true) : ∀ w ∈ ws, w ∈ ex_g := fun w hw => by
  have h1 := List.all_eq_true.mp h w hw
  rw [Bool.and_eq_true] at h1
  exact List.mem_filter.mpr ⟨List.mem_append_right _ (of_decide_eq_true h1.1), h1.2⟩
abbrev mX9_init : ex_M := (yX9_init, cX9_init, 1, none, none)
abbrev mX7_init : ex_M := (yX7_init, cX7_init, 1, none, none)
abbrev mX6_init : ex_M := (yX6_init, cX6_init, 1, none, none)
abbrev mX4_init : ex_M := (yX4_init, cX4_init, 1, none, none)
abbrev mX2_init : ex_M := (yX2_init, cX2_init, 1, none, none)
abbrev mX3_init : ex_M := (yX3_init, cX3_init, 2, none, none)
abbrev mX0_init : ex_M := (yX0_init, cX0_init, 1, none, none)
abbrev mX8_init : ex_M := (yX8_init, cX8_init, 1, none, none)
abbrev mX9_feed : ex_M := (yX9_feed, cX9_feed, 2, (some .int), none)
abbrev mX9_within : ex_M := (yX9_within, cX9_within, 3, (some .boolean), none)
abbrev mX7_append : ex_M := (yX7_append, cX7_append, 2, (some .int), none)
abbrev mX9_picture : ex_M := (yX9_picture, cX9_picture, 2, (some .int), none)
abbrev mX7_readInto : ex_M := (yX7_readInto, cX7_readInto, 5, (some .int), none)
abbrev mX5_init : ex_M := (yX5_init, cX5_init, 2, none, none)
abbrev mX5_take : ex_M := (yX5_take, cX5_take, 3, (some .int), none)
abbrev mX5_takeRowEnd : ex_M := (yX5_takeRowEnd, cX5_takeRowEnd, 2, (some .int), none)
abbrev mX4_setSize : ex_M := (yX4_setSize, cX4_setSize, 3, none, none)
abbrev mX5_signOf : ex_M := (yX5_signOf, cX5_signOf, 1, (some .int), none)
abbrev mX5_takeFirstSign : ex_M := (yX5_takeFirstSign, cX5_takeFirstSign, 2, (some .int), none)
abbrev mX5_takeSecondSign : ex_M := (yX5_takeSecondSign, cX5_takeSecondSign, 3, (some .int), none)
abbrev mX4_setInOrder : ex_M := (yX4_setInOrder, cX4_setInOrder, 4, none, none)
abbrev mX7_placeRead : ex_M := (yX7_placeRead, cX7_placeRead, 1, (some .int), none)
abbrev mX7_clear : ex_M := (yX7_clear, cX7_clear, 1, none, none)
abbrev mX3_remember : ex_M := (yX3_remember, cX3_remember, 2, none, none)
abbrev mX4_become : ex_M := (yX4_become, cX4_become, 3, none, none)
abbrev mX4_dots : ex_M := (yX4_dots, cX4_dots, 1, (some .int), none)
abbrev mX9_fault : ex_M := (yX9_fault, cX9_fault, 1, (some .int), none)
abbrev mX9_told : ex_M := (yX9_told, cX9_told, 2, (some .int), none)
abbrev mX4_maskedDots : ex_M := (yX4_maskedDots, cX4_maskedDots, 3, (some .int), none)
abbrev mX4_leastGrey : ex_M := (yX4_leastGrey, cX4_leastGrey, 3, (some .int), none)
abbrev mX4_greatestGrey : ex_M := (yX4_greatestGrey, cX4_greatestGrey, 3, (some .int), none)
abbrev mX4_greysTogether : ex_M := (yX4_greysTogether, cX4_greysTogether, 3, (some .int), none)
abbrev mX0_firstWrong : ex_M := (yX0_firstWrong, cX0_firstWrong, 3, (some .int), none)
abbrev mX4_has : ex_M := (yX4_has, cX4_has, 3, (some .boolean), none)
abbrev mX4_greyOf : ex_M := (yX4_greyOf, cX4_greyOf, 3, (some .int), none)
abbrev mX9_at : ex_M := (yX9_at, cX9_at, 4, (some .int), none)
abbrev mX4_isMasked : ex_M := (yX4_isMasked, cX4_isMasked, 3, (some .boolean), none)
abbrev mX9_tally : ex_M := (yX9_tally, cX9_tally, 6, (some .int), none)
abbrev mX4_dotsUpTo : ex_M := (yX4_dotsUpTo, cX4_dotsUpTo, 9, (some .int), none)
abbrev mX9_filter : ex_M := (yX9_filter, cX9_filter, 6, (some .int), none)
abbrev mX2_isFull : ex_M := (yX2_isFull, cX2_isFull, 1, (some .boolean), none)
abbrev mX1_init : ex_M := (yX1_init, cX1_init, 6, none, none)
abbrev mX2_add : ex_M := (yX2_add, cX2_add, 2, (some .int), none)
abbrev mX9_drop : ex_M := (yX9_drop, cX9_drop, 2, (some .int), none)
abbrev mX2_numbered : ex_M := (yX2_numbered, cX2_numbered, 2, (some (.object RX1)), none)
abbrev mX2_remove : ex_M := (yX2_remove, cX2_remove, 3, (some .int), none)
abbrev mX9_fill : ex_M := (yX9_fill, cX9_fill, 3, (some .int), none)
abbrev mX9_would : ex_M := (yX9_would, cX9_would, 6, (some .int), none)
abbrev mX8_lookAt : ex_M := (yX8_lookAt, cX8_lookAt, 7, none, none)
abbrev mJ7_fill_53178 : ex_M := (yJ7_fill_53178, cJ7_fill_53178, 4, none, none)
abbrev mX8_standingFor : ex_M := (yX8_standingFor, cX8_standingFor, 4, (some .int), none)
abbrev mJ9_floorMod_7cf53 : ex_M := (yJ9_floorMod_7cf53, cJ9_floorMod_7cf53, 3, (some .int), none)
abbrev mJ9_min_7cf53 : ex_M := (yJ9_min_7cf53, cJ9_min_7cf53, 2, (some .int), none)
abbrev mX8_countRow : ex_M := (yX8_countRow, cX8_countRow, 8, none, none)
abbrev mX8_count : ex_M := (yX8_count, cX8_count, 3, none, none)
abbrev mX8_ranked : ex_M := (yX8_ranked, cX8_ranked, 5, (some .int), none)
abbrev mX8_countedBelow : ex_M := (yX8_countedBelow, cX8_countedBelow, 4, (some .int), none)
abbrev mX8_spread : ex_M := (yX8_spread, cX8_spread, 1, (some .int), none)
abbrev mX9_bins : ex_M := (yX9_bins, cX9_bins, 7, (some .int), none)
abbrev mX9_lastOf : ex_M := (yX9_lastOf, cX9_lastOf, 4, (some .int), none)
abbrev mX9_spikes : ex_M := (yX9_spikes, cX9_spikes, 7, (some .int), none)
abbrev mJ9_abs_0f7a4 : ex_M := (yJ9_abs_0f7a4, cJ9_abs_0f7a4, 1, (some .int), none)
abbrev mX9_dot : ex_M := (yX9_dot, cX9_dot, 5, (some .int), none)
abbrev mX4_setGrey : ex_M := (yX4_setGrey, cX4_setGrey, 4, none, none)
abbrev mX9_mask : ex_M := (yX9_mask, cX9_mask, 4, (some .int), none)
abbrev mX4_setMasked : ex_M := (yX4_setMasked, cX4_setMasked, 4, none, none)
abbrev mX9_turn : ex_M := (yX9_turn, cX9_turn, 2, (some .int), none)
abbrev mX4_becomeTurned : ex_M := (yX4_becomeTurned, cX4_becomeTurned, 9, none, none)
abbrev mX9_filtered : ex_M := (yX9_filtered, cX9_filtered, 3, (some .int), none)
abbrev mX9_apply : ex_M := (yX9_apply, cX9_apply, 4, (some .int), none)
abbrev mX4_greysOtherThan : ex_M := (yX4_greysOtherThan, cX4_greysOtherThan, 4, (some .int), none)
abbrev mX9_all : ex_M := (yX9_all, cX9_all, 3, (some .int), none)
abbrev mX9_until : ex_M := (yX9_until, cX9_until, 5, (some .int), none)
abbrev mX9_noise : ex_M := (yX9_noise, cX9_noise, 3, (some .int), none)
abbrev mX6_speckle : ex_M := (yX6_speckle, cX6_speckle, 5, none, none)
abbrev mX6_draw : ex_M := (yX6_draw, cX6_draw, 2, (some .int), none)
abbrev mX9_undo : ex_M := (yX9_undo, cX9_undo, 2, (some .int), none)
abbrev mX3_takeBack : ex_M := (yX3_takeBack, cX3_takeBack, 3, none, none)
abbrev mX9_write : ex_M := (yX9_write, cX9_write, 4, (some .int), none)
abbrev mX0_add : ex_M := (yX0_add, cX0_add, 4, (some .int), none)
abbrev mX9_tear : ex_M := (yX9_tear, cX9_tear, 2, (some .int), none)
abbrev mX9_seed : ex_M := (yX9_seed, cX9_seed, 3, (some .int), none)
abbrev mX9_keep : ex_M := (yX9_keep, cX9_keep, 2, (some .int), none)
abbrev mX6_become : ex_M := (yX6_become, cX6_become, 2, none, none)
abbrev mX2_become : ex_M := (yX2_become, cX2_become, 3, none, none)
abbrev mX3_forget : ex_M := (yX3_forget, cX3_forget, 1, none, none)
abbrev mX9_goBack : ex_M := (yX9_goBack, cX9_goBack, 2, (some .int), none)
abbrev mX9_against : ex_M := (yX9_against, cX9_against, 2, (some .int), none)
abbrev mX4_dotsOtherThan : ex_M := (yX4_dotsOtherThan, cX4_dotsOtherThan, 4, (some .int), none)
abbrev mX10_init : ex_M := (yX10_init, cX10_init, 1, none, none)
abbrev mX10_feed : ex_M := (yX10_feed, cX10_feed, 2, (some .int), none)
abbrev mX10_in : ex_M := (yX10_in, cX10_in, 6, (some .boolean), none)
abbrev mX10_picture : ex_M := (yX10_picture, cX10_picture, 2, (some .int), none)
abbrev mX10_readText : ex_M := (yX10_readText, cX10_readText, 3, (some .int), none)
abbrev mX10_faultOf : ex_M := (yX10_faultOf, cX10_faultOf, 3, (some .int), none)
abbrev mX10_faultOfBreak : ex_M := (yX10_faultOfBreak, cX10_faultOfBreak, 1, (some .int), none)
abbrev mX10_isShort : ex_M := (yX10_isShort, cX10_isShort, 1, (some .boolean), none)
abbrev mX10_figure : ex_M := (yX10_figure, cX10_figure, 1, (some .int), none)
abbrev mX10_goOn : ex_M := (yX10_goOn, cX10_goOn, 2, none, none)
abbrev mX10_remember : ex_M := (yX10_remember, cX10_remember, 2, none, none)
abbrev mX10_copyRow : ex_M := (yX10_copyRow, cX10_copyRow, 4, none, none)
abbrev mX10_layPicture : ex_M := (yX10_layPicture, cX10_layPicture, 4, none, none)
abbrev mX10_place : ex_M := (yX10_place, cX10_place, 3, (some .int), none)
abbrev mX10_fault : ex_M := (yX10_fault, cX10_fault, 1, (some .int), none)
abbrev mX10_told : ex_M := (yX10_told, cX10_told, 2, (some .int), none)
abbrev mX10_masked : ex_M := (yX10_masked, cX10_masked, 4, (some .int), none)
abbrev mX10_isMasked : ex_M := (yX10_isMasked, cX10_isMasked, 3, (some .boolean), none)
abbrev mX10_ofGreys : ex_M := (yX10_ofGreys, cX10_ofGreys, 8, (some .int), none)
abbrev mX10_grey : ex_M := (yX10_grey, cX10_grey, 3, (some .int), none)
abbrev mX10_wrong : ex_M := (yX10_wrong, cX10_wrong, 2, (some .int), none)
abbrev mX10_isDot : ex_M := (yX10_isDot, cX10_isDot, 3, (some .boolean), none)
abbrev mX10_at : ex_M := (yX10_at, cX10_at, 4, (some .int), none)
abbrev mX10_tally : ex_M := (yX10_tally, cX10_tally, 9, (some .int), none)
abbrev mX10_filter : ex_M := (yX10_filter, cX10_filter, 8, (some .int), none)
abbrev mX10_drop : ex_M := (yX10_drop, cX10_drop, 3, (some .int), none)
abbrev mX10_isFilter : ex_M := (yX10_isFilter, cX10_isFilter, 2, (some .boolean), none)
abbrev mX10_fill : ex_M := (yX10_fill, cX10_fill, 3, (some .int), none)
abbrev mX10_would : ex_M := (yX10_would, cX10_would, 6, (some .int), none)
abbrev mX10_lastOf : ex_M := (yX10_lastOf, cX10_lastOf, 4, (some .int), none)
abbrev mX10_layWindow : ex_M := (yX10_layWindow, cX10_layWindow, 6, none, none)
abbrev mX10_part : ex_M := (yX10_part, cX10_part, 3, (some .int), none)
abbrev mX10_countAt : ex_M := (yX10_countAt, cX10_countAt, 7, none, none)
abbrev mX10_countOut : ex_M := (yX10_countOut, cX10_countOut, 6, none, none)
abbrev mX10_count : ex_M := (yX10_count, cX10_count, 3, none, none)
abbrev mX10_standIn : ex_M := (yX10_standIn, cX10_standIn, 4, (some .int), none)
abbrev mX10_leftOver : ex_M := (yX10_leftOver, cX10_leftOver, 2, (some .int), none)
abbrev mX10_below : ex_M := (yX10_below, cX10_below, 4, (some .int), none)
abbrev mX10_bins : ex_M := (yX10_bins, cX10_bins, 6, (some .int), none)
abbrev mX10_spikes : ex_M := (yX10_spikes, cX10_spikes, 7, (some .int), none)
abbrev mX10_dot : ex_M := (yX10_dot, cX10_dot, 5, (some .int), none)
abbrev mX10_setGrey : ex_M := (yX10_setGrey, cX10_setGrey, 4, none, none)
abbrev mX10_mask : ex_M := (yX10_mask, cX10_mask, 4, (some .int), none)
abbrev mX10_turn : ex_M := (yX10_turn, cX10_turn, 4, (some .int), none)
abbrev mX10_turnedFrom : ex_M := (yX10_turnedFrom, cX10_turnedFrom, 6, (some .int), none)
abbrev mX10_filtered : ex_M := (yX10_filtered, cX10_filtered, 2, (some .int), none)
abbrev mX10_applyNow : ex_M := (yX10_applyNow, cX10_applyNow, 5, (some .int), none)
abbrev mX10_all : ex_M := (yX10_all, cX10_all, 5, (some .int), none)
abbrev mX10_until : ex_M := (yX10_until, cX10_until, 4, (some .int), none)
abbrev mX10_noise : ex_M := (yX10_noise, cX10_noise, 6, (some .int), none)
abbrev mX10_draw : ex_M := (yX10_draw, cX10_draw, 2, (some .int), none)
abbrev mX10_undo : ex_M := (yX10_undo, cX10_undo, 3, (some .int), none)
abbrev mX10_write : ex_M := (yX10_write, cX10_write, 4, (some .int), none)
abbrev mX10_tear : ex_M := (yX10_tear, cX10_tear, 2, (some .int), none)
abbrev mX10_seed : ex_M := (yX10_seed, cX10_seed, 3, (some .int), none)
abbrev mX10_keep : ex_M := (yX10_keep, cX10_keep, 3, (some .int), none)
abbrev mX10_goBack : ex_M := (yX10_goBack, cX10_goBack, 3, (some .int), none)
abbrev mX10_isKept : ex_M := (yX10_isKept, cX10_isKept, 2, (some .boolean), none)
abbrev mX10_against : ex_M := (yX10_against, cX10_against, 6, (some .int), none)
theorem igX0 : ∀ w ∈ u_ws RX0 TX0 4, w ∈ ex_g := ex_all (by decide +kernel)
theorem igX1 : ∀ w ∈ u_ws RX1 TX1 5, w ∈ ex_g := ex_all (by decide +kernel)
theorem igX2 : ∀ w ∈ u_ws RX2 TX2 2, w ∈ ex_g := ex_all (by decide +kernel)
theorem igX3 : ∀ w ∈ u_ws RX3 TX3 3, w ∈ ex_g := ex_all (by decide +kernel)
theorem igX4 : ∀ w ∈ u_ws RX4 TX4 4, w ∈ ex_g := ex_all (by decide +kernel)
theorem igX5 : ∀ w ∈ u_ws RX5 TX5 6, w ∈ ex_g := ex_all (by decide +kernel)
theorem igX6 : ∀ w ∈ u_ws RX6 TX6 4, w ∈ ex_g := ex_all (by decide +kernel)
theorem igX7 : ∀ w ∈ u_ws RX7 TX7 3, w ∈ ex_g := ex_all (by decide +kernel)
theorem igX8 : ∀ w ∈ u_ws RX8 TX8 3, w ∈ ex_g := ex_all (by decide +kernel)
theorem igX9 : ∀ w ∈ u_ws RX9 TX9 10, w ∈ ex_g := ex_all (by decide +kernel)
theorem igX10 : ∀ w ∈ u_ws RX10 TX10 23, w ∈ ex_g := ex_all (by decide +kernel)
theorem cmX9_init : ex_cm mX9_init 0 := ⟨(ex_tw 18 (by rfl) rfl), (ex_tw 1 (by rfl) rfl), ⟨(by decide +kernel), (by decide +kernel), (by decide +kernel)⟩, (by decide +kernel)⟩
theorem cmX7_init : ex_cm mX7_init 0 := ⟨(ex_tw 26 (by rfl) rfl), (ex_tw 2 (by rfl) rfl), ⟨(by decide +kernel), (by decide +kernel), (by decide +kernel)⟩, (by decide +kernel)⟩
theorem cmX6_init : ex_cm mX6_init 0 := ⟨(ex_tw 44 (by rfl) rfl), (ex_tw 3 (by rfl) rfl), ⟨(by decide +kernel), (by decide +kernel), (by decide +kernel)⟩, (by decide +kernel)⟩
theorem cmX4_init : ex_cm mX4_init 0 := ⟨(ex_tw 50 (by rfl) rfl), (ex_tw 4 (by rfl) rfl), ⟨(by decide +kernel), (by decide +kernel), (by decide +kernel)⟩, (by decide +kernel)⟩
theorem cmX2_init : ex_cm mX2_init 0 := ⟨(ex_tw 76 (by rfl) rfl), (ex_tw 5 (by rfl) rfl), ⟨(by decide +kernel), (by decide +kernel), (by decide +kernel)⟩, (by decide +kernel)⟩
theorem cmX3_init : ex_cm mX3_init 0 := ⟨(ex_tw 110 (by rfl) rfl), (ex_tw 6 (by rfl) rfl), ⟨(by decide +kernel), (by decide +kernel), (by decide +kernel)⟩, (by decide +kernel)⟩
theorem cmX0_init : ex_cm mX0_init 0 := ⟨(ex_tw 130 (by rfl) rfl), (ex_tw 7 (by rfl) rfl), ⟨(by decide +kernel), (by decide +kernel), (by decide +kernel)⟩, (by decide +kernel)⟩
theorem cmX8_init : ex_cm mX8_init 0 := ⟨(ex_tw 150 (by rfl) rfl), (ex_tw 8 (by rfl) rfl), ⟨(by decide +kernel), (by decide +kernel), (by decide +kernel)⟩, (by decide +kernel)⟩
theorem cmX9_feed : ex_cm mX9_feed 1 := ⟨(ex_tw 199 (by rfl) rfl), (ex_tw 1 (by rfl) rfl), ⟨(by decide +kernel), (by decide +kernel), (by decide +kernel)⟩, (by decide +kernel)⟩
theorem cmX9_within : ex_cm mX9_within 3 := ⟨(ex_tw 202 (by rfl) rfl), (ex_tw 1 (by rfl) rfl), ⟨(by decide +kernel), (by decide +kernel), (by decide +kernel)⟩, (by decide +kernel)⟩
theorem cmX7_append : ex_cm mX7_append 1 := ⟨(ex_tw 207 (by rfl) rfl), (ex_tw 2 (by rfl) rfl), ⟨(by decide +kernel), (by decide +kernel), (by decide +kernel)⟩, (by decide +kernel)⟩
theorem cmX9_picture : ex_cm mX9_picture 0 := ⟨(ex_tw 212 (by rfl) rfl), (ex_tw 1 (by rfl) rfl), ⟨(by decide +kernel), (by decide +kernel), (by decide +kernel)⟩, (by decide +kernel)⟩
theorem cmX7_readInto : ex_cm mX7_readInto 1 := ⟨(ex_tw 216 (by rfl) rfl), (ex_tw 2 (by rfl) rfl), ⟨(by decide +kernel), (by decide +kernel), (by decide +kernel)⟩, (by decide +kernel)⟩
theorem cmX5_init : ex_cm mX5_init 1 := ⟨(ex_tw 221 (by rfl) rfl), (ex_tw 10 (by rfl) rfl), ⟨(by decide +kernel), (by decide +kernel), (by decide +kernel)⟩, (by decide +kernel)⟩
theorem cmX5_take : ex_cm mX5_take 1 := ⟨(ex_tw 245 (by rfl) rfl), (ex_tw 10 (by rfl) rfl), ⟨(by decide +kernel), (by decide +kernel), (by decide +kernel)⟩, (by decide +kernel)⟩
theorem cmX5_takeRowEnd : ex_cm mX5_takeRowEnd 1 := ⟨(ex_tw 249 (by rfl) rfl), (ex_tw 10 (by rfl) rfl), ⟨(by decide +kernel), (by decide +kernel), (by decide +kernel)⟩, (by decide +kernel)⟩
theorem cmX4_setSize : ex_cm mX4_setSize 2 := ⟨(ex_tw 253 (by rfl) rfl), (ex_tw 4 (by rfl) rfl), ⟨(by decide +kernel), (by decide +kernel), (by decide +kernel)⟩, (by decide +kernel)⟩
theorem cmX5_signOf : ex_cm mX5_signOf 1 := ⟨(ex_tw 257 (by rfl) rfl), (ex_tw 10 (by rfl) rfl), ⟨(by decide +kernel), (by decide +kernel), (by decide +kernel)⟩, (by decide +kernel)⟩
theorem cmX5_takeFirstSign : ex_cm mX5_takeFirstSign 1 := ⟨(ex_tw 262 (by rfl) rfl), (ex_tw 10 (by rfl) rfl), ⟨(by decide +kernel), (by decide +kernel), (by decide +kernel)⟩, (by decide +kernel)⟩
theorem cmX5_takeSecondSign : ex_cm mX5_takeSecondSign 1 := ⟨(ex_tw 266 (by rfl) rfl), (ex_tw 10 (by rfl) rfl), ⟨(by decide +kernel), (by decide +kernel), (by decide +kernel)⟩, (by decide +kernel)⟩
theorem cmX4_setInOrder : ex_cm mX4_setInOrder 3 := ⟨(ex_tw 270 (by rfl) rfl), (ex_tw 4 (by rfl) rfl), ⟨(by decide +kernel), (by decide +kernel), (by decide +kernel)⟩, (by decide +kernel)⟩
theorem cmX7_placeRead : ex_cm mX7_placeRead 0 := ⟨(ex_tw 275 (by rfl) rfl), (ex_tw 2 (by rfl) rfl), ⟨(by decide +kernel), (by decide +kernel), (by decide +kernel)⟩, (by decide +kernel)⟩
theorem cmX7_clear : ex_cm mX7_clear 0 := ⟨(ex_tw 279 (by rfl) rfl), (ex_tw 2 (by rfl) rfl), ⟨(by decide +kernel), (by decide +kernel), (by decide +kernel)⟩, (by decide +kernel)⟩
theorem cmX3_remember : ex_cm mX3_remember 1 := ⟨(ex_tw 283 (by rfl) rfl), (ex_tw 6 (by rfl) rfl), ⟨(by decide +kernel), (by decide +kernel), (by decide +kernel)⟩, (by decide +kernel)⟩
theorem cmX4_become : ex_cm mX4_become 1 := ⟨(ex_tw 287 (by rfl) rfl), (ex_tw 4 (by rfl) rfl), ⟨(by decide +kernel), (by decide +kernel), (by decide +kernel)⟩, (by decide +kernel)⟩
theorem cmX4_dots : ex_cm mX4_dots 0 := ⟨(ex_tw 292 (by rfl) rfl), (ex_tw 4 (by rfl) rfl), ⟨(by decide +kernel), (by decide +kernel), (by decide +kernel)⟩, (by decide +kernel)⟩
theorem cmX9_fault : ex_cm mX9_fault 0 := ⟨(ex_tw 298 (by rfl) rfl), (ex_tw 1 (by rfl) rfl), ⟨(by decide +kernel), (by decide +kernel), (by decide +kernel)⟩, (by decide +kernel)⟩
theorem cmX9_told : ex_cm mX9_told 1 := ⟨(ex_tw 302 (by rfl) rfl), (ex_tw 1 (by rfl) rfl), ⟨(by decide +kernel), (by decide +kernel), (by decide +kernel)⟩, (by decide +kernel)⟩
theorem cmX4_maskedDots : ex_cm mX4_maskedDots 0 := ⟨(ex_tw 306 (by rfl) rfl), (ex_tw 4 (by rfl) rfl), ⟨(by decide +kernel), (by decide +kernel), (by decide +kernel)⟩, (by decide +kernel)⟩
theorem cmX4_leastGrey : ex_cm mX4_leastGrey 0 := ⟨(ex_tw 310 (by rfl) rfl), (ex_tw 4 (by rfl) rfl), ⟨(by decide +kernel), (by decide +kernel), (by decide +kernel)⟩, (by decide +kernel)⟩
theorem cmX4_greatestGrey : ex_cm mX4_greatestGrey 0 := ⟨(ex_tw 314 (by rfl) rfl), (ex_tw 4 (by rfl) rfl), ⟨(by decide +kernel), (by decide +kernel), (by decide +kernel)⟩, (by decide +kernel)⟩
theorem cmX4_greysTogether : ex_cm mX4_greysTogether 0 := ⟨(ex_tw 318 (by rfl) rfl), (ex_tw 4 (by rfl) rfl), ⟨(by decide +kernel), (by decide +kernel), (by decide +kernel)⟩, (by decide +kernel)⟩
theorem cmX0_firstWrong : ex_cm mX0_firstWrong 1 := ⟨(ex_tw 322 (by rfl) rfl), (ex_tw 7 (by rfl) rfl), ⟨(by decide +kernel), (by decide +kernel), (by decide +kernel)⟩, (by decide +kernel)⟩
theorem cmX4_has : ex_cm mX4_has 2 := ⟨(ex_tw 326 (by rfl) rfl), (ex_tw 4 (by rfl) rfl), ⟨(by decide +kernel), (by decide +kernel), (by decide +kernel)⟩, (by decide +kernel)⟩
theorem cmX4_greyOf : ex_cm mX4_greyOf 2 := ⟨(ex_tw 330 (by rfl) rfl), (ex_tw 4 (by rfl) rfl), ⟨(by decide +kernel), (by decide +kernel), (by decide +kernel)⟩, (by decide +kernel)⟩
theorem cmX9_at : ex_cm mX9_at 3 := ⟨(ex_tw 335 (by rfl) rfl), (ex_tw 1 (by rfl) rfl), ⟨(by decide +kernel), (by decide +kernel), (by decide +kernel)⟩, (by decide +kernel)⟩
theorem cmX4_isMasked : ex_cm mX4_isMasked 2 := ⟨(ex_tw 342 (by rfl) rfl), (ex_tw 4 (by rfl) rfl), ⟨(by decide +kernel), (by decide +kernel), (by decide +kernel)⟩, (by decide +kernel)⟩
theorem cmX9_tally : ex_cm mX9_tally 5 := ⟨(ex_tw 346 (by rfl) rfl), (ex_tw 1 (by rfl) rfl), ⟨(by decide +kernel), (by decide +kernel), (by decide +kernel)⟩, (by decide +kernel)⟩
theorem cmX4_dotsUpTo : ex_cm mX4_dotsUpTo 5 := ⟨(ex_tw 350 (by rfl) rfl), (ex_tw 4 (by rfl) rfl), ⟨(by decide +kernel), (by decide +kernel), (by decide +kernel)⟩, (by decide +kernel)⟩
theorem cmX9_filter : ex_cm mX9_filter 5 := ⟨(ex_tw 356 (by rfl) rfl), (ex_tw 1 (by rfl) rfl), ⟨(by decide +kernel), (by decide +kernel), (by decide +kernel)⟩, (by decide +kernel)⟩
theorem cmX2_isFull : ex_cm mX2_isFull 0 := ⟨(ex_tw 360 (by rfl) rfl), (ex_tw 5 (by rfl) rfl), ⟨(by decide +kernel), (by decide +kernel), (by decide +kernel)⟩, (by decide +kernel)⟩
theorem cmX1_init : ex_cm mX1_init 5 := ⟨(ex_tw 366 (by rfl) rfl), (ex_tw 11 (by rfl) rfl), ⟨(by decide +kernel), (by decide +kernel), (by decide +kernel)⟩, (by decide +kernel)⟩
theorem cmX2_add : ex_cm mX2_add 1 := ⟨(ex_tw 392 (by rfl) rfl), (ex_tw 5 (by rfl) rfl), ⟨(by decide +kernel), (by decide +kernel), (by decide +kernel)⟩, (by decide +kernel)⟩
theorem cmX9_drop : ex_cm mX9_drop 1 := ⟨(ex_tw 398 (by rfl) rfl), (ex_tw 1 (by rfl) rfl), ⟨(by decide +kernel), (by decide +kernel), (by decide +kernel)⟩, (by decide +kernel)⟩
set_option maxRecDepth 20000 in
theorem cmX2_numbered : ex_cm mX2_numbered 1 := ⟨(ex_tw 402 (by rfl) rfl), (ex_tw 5 (by rfl) rfl), ⟨(by decide +kernel), (by decide +kernel), (by decide +kernel)⟩, (by decide +kernel)⟩
set_option maxRecDepth 20000 in
theorem cmX2_remove : ex_cm mX2_remove 1 := ⟨(ex_tw 407 (by rfl) rfl), (ex_tw 5 (by rfl) rfl), ⟨(by decide +kernel), (by decide +kernel), (by decide +kernel)⟩, (by decide +kernel)⟩
set_option maxRecDepth 20000 in
theorem cmX9_fill : ex_cm mX9_fill 1 := ⟨(ex_tw 412 (by rfl) rfl), (ex_tw 1 (by rfl) rfl), ⟨(by decide +kernel), (by decide +kernel), (by decide +kernel)⟩, (by decide +kernel)⟩
set_option maxRecDepth 20000 in
theorem cmX9_would : ex_cm mX9_would 4 := ⟨(ex_tw 416 (by rfl) rfl), (ex_tw 1 (by rfl) rfl), ⟨(by decide +kernel), (by decide +kernel), (by decide +kernel)⟩, (by decide +kernel)⟩
set_option maxRecDepth 20000 in
theorem cmX8_lookAt : ex_cm mX8_lookAt 5 := ⟨(ex_tw 420 (by rfl) rfl), (ex_tw 8 (by rfl) rfl), ⟨(by decide +kernel), (by decide +kernel), (by decide +kernel)⟩, (by decide +kernel)⟩
set_option maxRecDepth 20000 in
theorem cmJ7_fill_53178 : ex_cm mJ7_fill_53178 2 := ⟨(ex_tw 423 (by rfl) rfl), (ex_tw 12 (by rfl) rfl), ⟨(by decide +kernel), (by decide +kernel), (by decide +kernel)⟩, (by decide +kernel)⟩
set_option maxRecDepth 20000 in
theorem cmX8_standingFor : ex_cm mX8_standingFor 3 := ⟨(ex_tw 426 (by rfl) rfl), (ex_tw 8 (by rfl) rfl), ⟨(by decide +kernel), (by decide +kernel), (by decide +kernel)⟩, (by decide +kernel)⟩
set_option maxRecDepth 20000 in
theorem cmJ9_floorMod_7cf53 : ex_cm mJ9_floorMod_7cf53 2 := ⟨(ex_tw 430 (by rfl) rfl), (ex_tw 13 (by rfl) rfl), ⟨(by decide +kernel), (by decide +kernel), (by decide +kernel)⟩, (by decide +kernel)⟩
set_option maxRecDepth 20000 in
theorem cmJ9_min_7cf53 : ex_cm mJ9_min_7cf53 2 := ⟨(ex_tw 433 (by rfl) rfl), (ex_tw 13 (by rfl) rfl), ⟨(by decide +kernel), (by decide +kernel), (by decide +kernel)⟩, (by decide +kernel)⟩
set_option maxRecDepth 20000 in
theorem cmX8_countRow : ex_cm mX8_countRow 5 := ⟨(ex_tw 437 (by rfl) rfl), (ex_tw 8 (by rfl) rfl), ⟨(by decide +kernel), (by decide +kernel), (by decide +kernel)⟩, (by decide +kernel)⟩
set_option maxRecDepth 20000 in
theorem cmX8_count : ex_cm mX8_count 2 := ⟨(ex_tw 441 (by rfl) rfl), (ex_tw 8 (by rfl) rfl), ⟨(by decide +kernel), (by decide +kernel), (by decide +kernel)⟩, (by decide +kernel)⟩
set_option maxRecDepth 20000 in
theorem cmX8_ranked : ex_cm mX8_ranked 1 := ⟨(ex_tw 447 (by rfl) rfl), (ex_tw 8 (by rfl) rfl), ⟨(by decide +kernel), (by decide +kernel), (by decide +kernel)⟩, (by decide +kernel)⟩
set_option maxRecDepth 20000 in
theorem cmX8_countedBelow : ex_cm mX8_countedBelow 1 := ⟨(ex_tw 451 (by rfl) rfl), (ex_tw 8 (by rfl) rfl), ⟨(by decide +kernel), (by decide +kernel), (by decide +kernel)⟩, (by decide +kernel)⟩
set_option maxRecDepth 20000 in
theorem cmX8_spread : ex_cm mX8_spread 0 := ⟨(ex_tw 455 (by rfl) rfl), (ex_tw 8 (by rfl) rfl), ⟨(by decide +kernel), (by decide +kernel), (by decide +kernel)⟩, (by decide +kernel)⟩
set_option maxRecDepth 20000 in
theorem cmX9_bins : ex_cm mX9_bins 1 := ⟨(ex_tw 460 (by rfl) rfl), (ex_tw 1 (by rfl) rfl), ⟨(by decide +kernel), (by decide +kernel), (by decide +kernel)⟩, (by decide +kernel)⟩
set_option maxRecDepth 20000 in
theorem cmX9_lastOf : ex_cm mX9_lastOf 3 := ⟨(ex_tw 464 (by rfl) rfl), (ex_tw 1 (by rfl) rfl), ⟨(by decide +kernel), (by decide +kernel), (by decide +kernel)⟩, (by decide +kernel)⟩
set_option maxRecDepth 20000 in
theorem cmX9_spikes : ex_cm mX9_spikes 2 := ⟨(ex_tw 468 (by rfl) rfl), (ex_tw 1 (by rfl) rfl), ⟨(by decide +kernel), (by decide +kernel), (by decide +kernel)⟩, (by decide +kernel)⟩
set_option maxRecDepth 20000 in
theorem cmJ9_abs_0f7a4 : ex_cm mJ9_abs_0f7a4 1 := ⟨(ex_tw 471 (by rfl) rfl), (ex_tw 13 (by rfl) rfl), ⟨(by decide +kernel), (by decide +kernel), (by decide +kernel)⟩, (by decide +kernel)⟩
set_option maxRecDepth 20000 in
theorem cmX9_dot : ex_cm mX9_dot 3 := ⟨(ex_tw 475 (by rfl) rfl), (ex_tw 1 (by rfl) rfl), ⟨(by decide +kernel), (by decide +kernel), (by decide +kernel)⟩, (by decide +kernel)⟩
set_option maxRecDepth 20000 in
theorem cmX4_setGrey : ex_cm mX4_setGrey 3 := ⟨(ex_tw 479 (by rfl) rfl), (ex_tw 4 (by rfl) rfl), ⟨(by decide +kernel), (by decide +kernel), (by decide +kernel)⟩, (by decide +kernel)⟩
set_option maxRecDepth 20000 in
theorem cmX9_mask : ex_cm mX9_mask 3 := ⟨(ex_tw 483 (by rfl) rfl), (ex_tw 1 (by rfl) rfl), ⟨(by decide +kernel), (by decide +kernel), (by decide +kernel)⟩, (by decide +kernel)⟩
set_option maxRecDepth 20000 in
theorem cmX4_setMasked : ex_cm mX4_setMasked 3 := ⟨(ex_tw 487 (by rfl) rfl), (ex_tw 4 (by rfl) rfl), ⟨(by decide +kernel), (by decide +kernel), (by decide +kernel)⟩, (by decide +kernel)⟩
set_option maxRecDepth 20000 in
theorem cmX9_turn : ex_cm mX9_turn 1 := ⟨(ex_tw 491 (by rfl) rfl), (ex_tw 1 (by rfl) rfl), ⟨(by decide +kernel), (by decide +kernel), (by decide +kernel)⟩, (by decide +kernel)⟩
set_option maxRecDepth 20000 in
theorem cmX4_becomeTurned : ex_cm mX4_becomeTurned 2 := ⟨(ex_tw 496 (by rfl) rfl), (ex_tw 4 (by rfl) rfl), ⟨(by decide +kernel), (by decide +kernel), (by decide +kernel)⟩, (by decide +kernel)⟩
set_option maxRecDepth 20000 in
theorem cmX9_filtered : ex_cm mX9_filtered 1 := ⟨(ex_tw 502 (by rfl) rfl), (ex_tw 1 (by rfl) rfl), ⟨(by decide +kernel), (by decide +kernel), (by decide +kernel)⟩, (by decide +kernel)⟩
set_option maxRecDepth 20000 in
theorem cmX9_apply : ex_cm mX9_apply 1 := ⟨(ex_tw 506 (by rfl) rfl), (ex_tw 1 (by rfl) rfl), ⟨(by decide +kernel), (by decide +kernel), (by decide +kernel)⟩, (by decide +kernel)⟩
set_option maxRecDepth 20000 in
theorem cmX4_greysOtherThan : ex_cm mX4_greysOtherThan 1 := ⟨(ex_tw 510 (by rfl) rfl), (ex_tw 4 (by rfl) rfl), ⟨(by decide +kernel), (by decide +kernel), (by decide +kernel)⟩, (by decide +kernel)⟩
set_option maxRecDepth 20000 in
theorem cmX9_all : ex_cm mX9_all 0 := ⟨(ex_tw 514 (by rfl) rfl), (ex_tw 1 (by rfl) rfl), ⟨(by decide +kernel), (by decide +kernel), (by decide +kernel)⟩, (by decide +kernel)⟩
set_option maxRecDepth 20000 in
theorem cmX9_until : ex_cm mX9_until 2 := ⟨(ex_tw 518 (by rfl) rfl), (ex_tw 1 (by rfl) rfl), ⟨(by decide +kernel), (by decide +kernel), (by decide +kernel)⟩, (by decide +kernel)⟩
set_option maxRecDepth 20000 in
theorem cmX9_noise : ex_cm mX9_noise 1 := ⟨(ex_tw 522 (by rfl) rfl), (ex_tw 1 (by rfl) rfl), ⟨(by decide +kernel), (by decide +kernel), (by decide +kernel)⟩, (by decide +kernel)⟩
set_option maxRecDepth 20000 in
theorem cmX6_speckle : ex_cm mX6_speckle 0 := ⟨(ex_tw 526 (by rfl) rfl), (ex_tw 3 (by rfl) rfl), ⟨(by decide +kernel), (by decide +kernel), (by decide +kernel)⟩, (by decide +kernel)⟩
set_option maxRecDepth 20000 in
theorem cmX6_draw : ex_cm mX6_draw 1 := ⟨(ex_tw 530 (by rfl) rfl), (ex_tw 3 (by rfl) rfl), ⟨(by decide +kernel), (by decide +kernel), (by decide +kernel)⟩, (by decide +kernel)⟩
set_option maxRecDepth 20000 in
theorem cmX9_undo : ex_cm mX9_undo 1 := ⟨(ex_tw 539 (by rfl) rfl), (ex_tw 1 (by rfl) rfl), ⟨(by decide +kernel), (by decide +kernel), (by decide +kernel)⟩, (by decide +kernel)⟩
set_option maxRecDepth 20000 in
theorem cmX3_takeBack : ex_cm mX3_takeBack 2 := ⟨(ex_tw 543 (by rfl) rfl), (ex_tw 6 (by rfl) rfl), ⟨(by decide +kernel), (by decide +kernel), (by decide +kernel)⟩, (by decide +kernel)⟩
set_option maxRecDepth 20000 in
theorem cmX9_write : ex_cm mX9_write 3 := ⟨(ex_tw 548 (by rfl) rfl), (ex_tw 1 (by rfl) rfl), ⟨(by decide +kernel), (by decide +kernel), (by decide +kernel)⟩, (by decide +kernel)⟩
set_option maxRecDepth 20000 in
theorem cmX0_add : ex_cm mX0_add 3 := ⟨(ex_tw 552 (by rfl) rfl), (ex_tw 7 (by rfl) rfl), ⟨(by decide +kernel), (by decide +kernel), (by decide +kernel)⟩, (by decide +kernel)⟩
set_option maxRecDepth 20000 in
theorem cmX9_tear : ex_cm mX9_tear 0 := ⟨(ex_tw 557 (by rfl) rfl), (ex_tw 1 (by rfl) rfl), ⟨(by decide +kernel), (by decide +kernel), (by decide +kernel)⟩, (by decide +kernel)⟩
set_option maxRecDepth 20000 in
theorem cmX9_seed : ex_cm mX9_seed 1 := ⟨(ex_tw 561 (by rfl) rfl), (ex_tw 1 (by rfl) rfl), ⟨(by decide +kernel), (by decide +kernel), (by decide +kernel)⟩, (by decide +kernel)⟩
set_option maxRecDepth 20000 in
theorem cmX9_keep : ex_cm mX9_keep 1 := ⟨(ex_tw 565 (by rfl) rfl), (ex_tw 1 (by rfl) rfl), ⟨(by decide +kernel), (by decide +kernel), (by decide +kernel)⟩, (by decide +kernel)⟩
set_option maxRecDepth 20000 in
theorem cmX6_become : ex_cm mX6_become 1 := ⟨(ex_tw 569 (by rfl) rfl), (ex_tw 3 (by rfl) rfl), ⟨(by decide +kernel), (by decide +kernel), (by decide +kernel)⟩, (by decide +kernel)⟩
set_option maxRecDepth 20000 in
theorem cmX2_become : ex_cm mX2_become 1 := ⟨(ex_tw 574 (by rfl) rfl), (ex_tw 5 (by rfl) rfl), ⟨(by decide +kernel), (by decide +kernel), (by decide +kernel)⟩, (by decide +kernel)⟩
set_option maxRecDepth 20000 in
theorem cmX3_forget : ex_cm mX3_forget 0 := ⟨(ex_tw 578 (by rfl) rfl), (ex_tw 6 (by rfl) rfl), ⟨(by decide +kernel), (by decide +kernel), (by decide +kernel)⟩, (by decide +kernel)⟩
set_option maxRecDepth 20000 in
theorem cmX9_goBack : ex_cm mX9_goBack 1 := ⟨(ex_tw 582 (by rfl) rfl), (ex_tw 1 (by rfl) rfl), ⟨(by decide +kernel), (by decide +kernel), (by decide +kernel)⟩, (by decide +kernel)⟩
set_option maxRecDepth 20000 in
theorem cmX9_against : ex_cm mX9_against 1 := ⟨(ex_tw 586 (by rfl) rfl), (ex_tw 1 (by rfl) rfl), ⟨(by decide +kernel), (by decide +kernel), (by decide +kernel)⟩, (by decide +kernel)⟩
set_option maxRecDepth 20000 in
theorem cmX4_dotsOtherThan : ex_cm mX4_dotsOtherThan 1 := ⟨(ex_tw 590 (by rfl) rfl), (ex_tw 4 (by rfl) rfl), ⟨(by decide +kernel), (by decide +kernel), (by decide +kernel)⟩, (by decide +kernel)⟩
set_option maxRecDepth 20000 in
theorem cmX10_init : ex_cm mX10_init 0 := ⟨(ex_tw 595 (by rfl) rfl), (ex_tw 9 (by rfl) rfl), ⟨(by decide +kernel), (by decide +kernel), (by decide +kernel)⟩, (by decide +kernel)⟩
set_option maxRecDepth 20000 in
theorem cmX10_feed : ex_cm mX10_feed 1 := ⟨(ex_tw 670 (by rfl) rfl), (ex_tw 9 (by rfl) rfl), ⟨(by decide +kernel), (by decide +kernel), (by decide +kernel)⟩, (by decide +kernel)⟩
set_option maxRecDepth 20000 in
theorem cmX10_in : ex_cm mX10_in 3 := ⟨(ex_tw 674 (by rfl) rfl), (ex_tw 9 (by rfl) rfl), ⟨(by decide +kernel), (by decide +kernel), (by decide +kernel)⟩, (by decide +kernel)⟩
set_option maxRecDepth 20000 in
theorem cmX10_picture : ex_cm mX10_picture 0 := ⟨(ex_tw 680 (by rfl) rfl), (ex_tw 9 (by rfl) rfl), ⟨(by decide +kernel), (by decide +kernel), (by decide +kernel)⟩, (by decide +kernel)⟩
set_option maxRecDepth 20000 in
theorem cmX10_readText : ex_cm mX10_readText 0 := ⟨(ex_tw 684 (by rfl) rfl), (ex_tw 9 (by rfl) rfl), ⟨(by decide +kernel), (by decide +kernel), (by decide +kernel)⟩, (by decide +kernel)⟩
set_option maxRecDepth 20000 in
theorem cmX10_faultOf : ex_cm mX10_faultOf 1 := ⟨(ex_tw 688 (by rfl) rfl), (ex_tw 9 (by rfl) rfl), ⟨(by decide +kernel), (by decide +kernel), (by decide +kernel)⟩, (by decide +kernel)⟩
set_option maxRecDepth 20000 in
theorem cmX10_faultOfBreak : ex_cm mX10_faultOfBreak 0 := ⟨(ex_tw 692 (by rfl) rfl), (ex_tw 9 (by rfl) rfl), ⟨(by decide +kernel), (by decide +kernel), (by decide +kernel)⟩, (by decide +kernel)⟩
set_option maxRecDepth 20000 in
theorem cmX10_isShort : ex_cm mX10_isShort 0 := ⟨(ex_tw 696 (by rfl) rfl), (ex_tw 9 (by rfl) rfl), ⟨(by decide +kernel), (by decide +kernel), (by decide +kernel)⟩, (by decide +kernel)⟩
set_option maxRecDepth 20000 in
theorem cmX10_figure : ex_cm mX10_figure 1 := ⟨(ex_tw 699 (by rfl) rfl), (ex_tw 9 (by rfl) rfl), ⟨(by decide +kernel), (by decide +kernel), (by decide +kernel)⟩, (by decide +kernel)⟩
set_option maxRecDepth 20000 in
theorem cmX10_goOn : ex_cm mX10_goOn 1 := ⟨(ex_tw 707 (by rfl) rfl), (ex_tw 9 (by rfl) rfl), ⟨(by decide +kernel), (by decide +kernel), (by decide +kernel)⟩, (by decide +kernel)⟩
set_option maxRecDepth 20000 in
theorem cmX10_remember : ex_cm mX10_remember 0 := ⟨(ex_tw 711 (by rfl) rfl), (ex_tw 9 (by rfl) rfl), ⟨(by decide +kernel), (by decide +kernel), (by decide +kernel)⟩, (by decide +kernel)⟩
set_option maxRecDepth 20000 in
theorem cmX10_copyRow : ex_cm mX10_copyRow 2 := ⟨(ex_tw 715 (by rfl) rfl), (ex_tw 9 (by rfl) rfl), ⟨(by decide +kernel), (by decide +kernel), (by decide +kernel)⟩, (by decide +kernel)⟩
set_option maxRecDepth 20000 in
theorem cmX10_layPicture : ex_cm mX10_layPicture 0 := ⟨(ex_tw 719 (by rfl) rfl), (ex_tw 9 (by rfl) rfl), ⟨(by decide +kernel), (by decide +kernel), (by decide +kernel)⟩, (by decide +kernel)⟩
set_option maxRecDepth 20000 in
theorem cmX10_place : ex_cm mX10_place 2 := ⟨(ex_tw 723 (by rfl) rfl), (ex_tw 9 (by rfl) rfl), ⟨(by decide +kernel), (by decide +kernel), (by decide +kernel)⟩, (by decide +kernel)⟩
set_option maxRecDepth 20000 in
theorem cmX10_fault : ex_cm mX10_fault 0 := ⟨(ex_tw 727 (by rfl) rfl), (ex_tw 9 (by rfl) rfl), ⟨(by decide +kernel), (by decide +kernel), (by decide +kernel)⟩, (by decide +kernel)⟩
set_option maxRecDepth 20000 in
theorem cmX10_told : ex_cm mX10_told 1 := ⟨(ex_tw 731 (by rfl) rfl), (ex_tw 9 (by rfl) rfl), ⟨(by decide +kernel), (by decide +kernel), (by decide +kernel)⟩, (by decide +kernel)⟩
set_option maxRecDepth 20000 in
theorem cmX10_masked : ex_cm mX10_masked 0 := ⟨(ex_tw 735 (by rfl) rfl), (ex_tw 9 (by rfl) rfl), ⟨(by decide +kernel), (by decide +kernel), (by decide +kernel)⟩, (by decide +kernel)⟩
set_option maxRecDepth 20000 in
theorem cmX10_isMasked : ex_cm mX10_isMasked 2 := ⟨(ex_tw 739 (by rfl) rfl), (ex_tw 9 (by rfl) rfl), ⟨(by decide +kernel), (by decide +kernel), (by decide +kernel)⟩, (by decide +kernel)⟩
set_option maxRecDepth 20000 in
theorem cmX10_ofGreys : ex_cm mX10_ofGreys 1 := ⟨(ex_tw 743 (by rfl) rfl), (ex_tw 9 (by rfl) rfl), ⟨(by decide +kernel), (by decide +kernel), (by decide +kernel)⟩, (by decide +kernel)⟩
set_option maxRecDepth 20000 in
theorem cmX10_grey : ex_cm mX10_grey 2 := ⟨(ex_tw 747 (by rfl) rfl), (ex_tw 9 (by rfl) rfl), ⟨(by decide +kernel), (by decide +kernel), (by decide +kernel)⟩, (by decide +kernel)⟩
set_option maxRecDepth 20000 in
theorem cmX10_wrong : ex_cm mX10_wrong 0 := ⟨(ex_tw 751 (by rfl) rfl), (ex_tw 9 (by rfl) rfl), ⟨(by decide +kernel), (by decide +kernel), (by decide +kernel)⟩, (by decide +kernel)⟩
set_option maxRecDepth 20000 in
theorem cmX10_isDot : ex_cm mX10_isDot 2 := ⟨(ex_tw 755 (by rfl) rfl), (ex_tw 9 (by rfl) rfl), ⟨(by decide +kernel), (by decide +kernel), (by decide +kernel)⟩, (by decide +kernel)⟩
set_option maxRecDepth 20000 in
theorem cmX10_at : ex_cm mX10_at 3 := ⟨(ex_tw 759 (by rfl) rfl), (ex_tw 9 (by rfl) rfl), ⟨(by decide +kernel), (by decide +kernel), (by decide +kernel)⟩, (by decide +kernel)⟩
set_option maxRecDepth 20000 in
theorem cmX10_tally : ex_cm mX10_tally 5 := ⟨(ex_tw 764 (by rfl) rfl), (ex_tw 9 (by rfl) rfl), ⟨(by decide +kernel), (by decide +kernel), (by decide +kernel)⟩, (by decide +kernel)⟩
set_option maxRecDepth 20000 in
theorem cmX10_filter : ex_cm mX10_filter 5 := ⟨(ex_tw 770 (by rfl) rfl), (ex_tw 9 (by rfl) rfl), ⟨(by decide +kernel), (by decide +kernel), (by decide +kernel)⟩, (by decide +kernel)⟩
set_option maxRecDepth 20000 in
theorem cmX10_drop : ex_cm mX10_drop 1 := ⟨(ex_tw 777 (by rfl) rfl), (ex_tw 9 (by rfl) rfl), ⟨(by decide +kernel), (by decide +kernel), (by decide +kernel)⟩, (by decide +kernel)⟩
set_option maxRecDepth 20000 in
theorem cmX10_isFilter : ex_cm mX10_isFilter 1 := ⟨(ex_tw 781 (by rfl) rfl), (ex_tw 9 (by rfl) rfl), ⟨(by decide +kernel), (by decide +kernel), (by decide +kernel)⟩, (by decide +kernel)⟩
set_option maxRecDepth 20000 in
theorem cmX10_fill : ex_cm mX10_fill 1 := ⟨(ex_tw 785 (by rfl) rfl), (ex_tw 9 (by rfl) rfl), ⟨(by decide +kernel), (by decide +kernel), (by decide +kernel)⟩, (by decide +kernel)⟩
set_option maxRecDepth 20000 in
theorem cmX10_would : ex_cm mX10_would 4 := ⟨(ex_tw 789 (by rfl) rfl), (ex_tw 9 (by rfl) rfl), ⟨(by decide +kernel), (by decide +kernel), (by decide +kernel)⟩, (by decide +kernel)⟩
set_option maxRecDepth 20000 in
theorem cmX10_lastOf : ex_cm mX10_lastOf 3 := ⟨(ex_tw 793 (by rfl) rfl), (ex_tw 9 (by rfl) rfl), ⟨(by decide +kernel), (by decide +kernel), (by decide +kernel)⟩, (by decide +kernel)⟩
set_option maxRecDepth 20000 in
theorem cmX10_layWindow : ex_cm mX10_layWindow 3 := ⟨(ex_tw 797 (by rfl) rfl), (ex_tw 9 (by rfl) rfl), ⟨(by decide +kernel), (by decide +kernel), (by decide +kernel)⟩, (by decide +kernel)⟩
set_option maxRecDepth 20000 in
theorem cmX10_part : ex_cm mX10_part 2 := ⟨(ex_tw 801 (by rfl) rfl), (ex_tw 9 (by rfl) rfl), ⟨(by decide +kernel), (by decide +kernel), (by decide +kernel)⟩, (by decide +kernel)⟩
set_option maxRecDepth 20000 in
theorem cmX10_countAt : ex_cm mX10_countAt 4 := ⟨(ex_tw 805 (by rfl) rfl), (ex_tw 9 (by rfl) rfl), ⟨(by decide +kernel), (by decide +kernel), (by decide +kernel)⟩, (by decide +kernel)⟩
set_option maxRecDepth 20000 in
theorem cmX10_countOut : ex_cm mX10_countOut 3 := ⟨(ex_tw 809 (by rfl) rfl), (ex_tw 9 (by rfl) rfl), ⟨(by decide +kernel), (by decide +kernel), (by decide +kernel)⟩, (by decide +kernel)⟩
set_option maxRecDepth 20000 in
theorem cmX10_count : ex_cm mX10_count 1 := ⟨(ex_tw 813 (by rfl) rfl), (ex_tw 9 (by rfl) rfl), ⟨(by decide +kernel), (by decide +kernel), (by decide +kernel)⟩, (by decide +kernel)⟩
set_option maxRecDepth 20000 in
theorem cmX10_standIn : ex_cm mX10_standIn 3 := ⟨(ex_tw 816 (by rfl) rfl), (ex_tw 9 (by rfl) rfl), ⟨(by decide +kernel), (by decide +kernel), (by decide +kernel)⟩, (by decide +kernel)⟩
set_option maxRecDepth 20000 in
theorem cmX10_leftOver : ex_cm mX10_leftOver 2 := ⟨(ex_tw 819 (by rfl) rfl), (ex_tw 9 (by rfl) rfl), ⟨(by decide +kernel), (by decide +kernel), (by decide +kernel)⟩, (by decide +kernel)⟩
set_option maxRecDepth 20000 in
theorem cmX10_below : ex_cm mX10_below 1 := ⟨(ex_tw 823 (by rfl) rfl), (ex_tw 9 (by rfl) rfl), ⟨(by decide +kernel), (by decide +kernel), (by decide +kernel)⟩, (by decide +kernel)⟩
set_option maxRecDepth 20000 in
theorem cmX10_bins : ex_cm mX10_bins 1 := ⟨(ex_tw 827 (by rfl) rfl), (ex_tw 9 (by rfl) rfl), ⟨(by decide +kernel), (by decide +kernel), (by decide +kernel)⟩, (by decide +kernel)⟩
set_option maxRecDepth 20000 in
theorem cmX10_spikes : ex_cm mX10_spikes 2 := ⟨(ex_tw 831 (by rfl) rfl), (ex_tw 9 (by rfl) rfl), ⟨(by decide +kernel), (by decide +kernel), (by decide +kernel)⟩, (by decide +kernel)⟩
set_option maxRecDepth 20000 in
theorem cmX10_dot : ex_cm mX10_dot 3 := ⟨(ex_tw 835 (by rfl) rfl), (ex_tw 9 (by rfl) rfl), ⟨(by decide +kernel), (by decide +kernel), (by decide +kernel)⟩, (by decide +kernel)⟩
set_option maxRecDepth 20000 in
theorem cmX10_setGrey : ex_cm mX10_setGrey 3 := ⟨(ex_tw 839 (by rfl) rfl), (ex_tw 9 (by rfl) rfl), ⟨(by decide +kernel), (by decide +kernel), (by decide +kernel)⟩, (by decide +kernel)⟩
set_option maxRecDepth 20000 in
theorem cmX10_mask : ex_cm mX10_mask 3 := ⟨(ex_tw 843 (by rfl) rfl), (ex_tw 9 (by rfl) rfl), ⟨(by decide +kernel), (by decide +kernel), (by decide +kernel)⟩, (by decide +kernel)⟩
set_option maxRecDepth 20000 in
theorem cmX10_turn : ex_cm mX10_turn 1 := ⟨(ex_tw 847 (by rfl) rfl), (ex_tw 9 (by rfl) rfl), ⟨(by decide +kernel), (by decide +kernel), (by decide +kernel)⟩, (by decide +kernel)⟩
set_option maxRecDepth 20000 in
theorem cmX10_turnedFrom : ex_cm mX10_turnedFrom 3 := ⟨(ex_tw 853 (by rfl) rfl), (ex_tw 9 (by rfl) rfl), ⟨(by decide +kernel), (by decide +kernel), (by decide +kernel)⟩, (by decide +kernel)⟩
set_option maxRecDepth 20000 in
theorem cmX10_filtered : ex_cm mX10_filtered 1 := ⟨(ex_tw 857 (by rfl) rfl), (ex_tw 9 (by rfl) rfl), ⟨(by decide +kernel), (by decide +kernel), (by decide +kernel)⟩, (by decide +kernel)⟩
set_option maxRecDepth 20000 in
theorem cmX10_applyNow : ex_cm mX10_applyNow 1 := ⟨(ex_tw 861 (by rfl) rfl), (ex_tw 9 (by rfl) rfl), ⟨(by decide +kernel), (by decide +kernel), (by decide +kernel)⟩, (by decide +kernel)⟩
set_option maxRecDepth 20000 in
theorem cmX10_all : ex_cm mX10_all 0 := ⟨(ex_tw 865 (by rfl) rfl), (ex_tw 9 (by rfl) rfl), ⟨(by decide +kernel), (by decide +kernel), (by decide +kernel)⟩, (by decide +kernel)⟩
set_option maxRecDepth 20000 in
theorem cmX10_until : ex_cm mX10_until 2 := ⟨(ex_tw 869 (by rfl) rfl), (ex_tw 9 (by rfl) rfl), ⟨(by decide +kernel), (by decide +kernel), (by decide +kernel)⟩, (by decide +kernel)⟩
set_option maxRecDepth 20000 in
theorem cmX10_noise : ex_cm mX10_noise 1 := ⟨(ex_tw 874 (by rfl) rfl), (ex_tw 9 (by rfl) rfl), ⟨(by decide +kernel), (by decide +kernel), (by decide +kernel)⟩, (by decide +kernel)⟩
set_option maxRecDepth 20000 in
theorem cmX10_draw : ex_cm mX10_draw 1 := ⟨(ex_tw 879 (by rfl) rfl), (ex_tw 9 (by rfl) rfl), ⟨(by decide +kernel), (by decide +kernel), (by decide +kernel)⟩, (by decide +kernel)⟩
set_option maxRecDepth 20000 in
theorem cmX10_undo : ex_cm mX10_undo 1 := ⟨(ex_tw 887 (by rfl) rfl), (ex_tw 9 (by rfl) rfl), ⟨(by decide +kernel), (by decide +kernel), (by decide +kernel)⟩, (by decide +kernel)⟩
set_option maxRecDepth 20000 in
theorem cmX10_write : ex_cm mX10_write 3 := ⟨(ex_tw 892 (by rfl) rfl), (ex_tw 9 (by rfl) rfl), ⟨(by decide +kernel), (by decide +kernel), (by decide +kernel)⟩, (by decide +kernel)⟩
set_option maxRecDepth 20000 in
theorem cmX10_tear : ex_cm mX10_tear 0 := ⟨(ex_tw 896 (by rfl) rfl), (ex_tw 9 (by rfl) rfl), ⟨(by decide +kernel), (by decide +kernel), (by decide +kernel)⟩, (by decide +kernel)⟩
set_option maxRecDepth 20000 in
theorem cmX10_seed : ex_cm mX10_seed 1 := ⟨(ex_tw 900 (by rfl) rfl), (ex_tw 9 (by rfl) rfl), ⟨(by decide +kernel), (by decide +kernel), (by decide +kernel)⟩, (by decide +kernel)⟩
set_option maxRecDepth 20000 in
theorem cmX10_keep : ex_cm mX10_keep 1 := ⟨(ex_tw 904 (by rfl) rfl), (ex_tw 9 (by rfl) rfl), ⟨(by decide +kernel), (by decide +kernel), (by decide +kernel)⟩, (by decide +kernel)⟩
set_option maxRecDepth 20000 in
theorem cmX10_goBack : ex_cm mX10_goBack 1 := ⟨(ex_tw 908 (by rfl) rfl), (ex_tw 9 (by rfl) rfl), ⟨(by decide +kernel), (by decide +kernel), (by decide +kernel)⟩, (by decide +kernel)⟩
set_option maxRecDepth 20000 in
theorem cmX10_isKept : ex_cm mX10_isKept 1 := ⟨(ex_tw 912 (by rfl) rfl), (ex_tw 9 (by rfl) rfl), ⟨(by decide +kernel), (by decide +kernel), (by decide +kernel)⟩, (by decide +kernel)⟩
set_option maxRecDepth 20000 in
theorem cmX10_against : ex_cm mX10_against 1 := ⟨(ex_tw 916 (by rfl) rfl), (ex_tw 9 (by rfl) rfl), ⟨(by decide +kernel), (by decide +kernel), (by decide +kernel)⟩, (by decide +kernel)⟩
theorem fX7_9 : ex_F RX7 9 7 0 .int false := ⟨RX7, TX7, 3, tyX7, rfl, (by decide +kernel), igX7, tyX7_ok, nmX7, rfl, rfl, rfl, (ex_tw 28 (by rfl) rfl)⟩
theorem fX9_117 : ex_F RX9 117 7 0 .int false := ⟨RX7, TX7, 3, tyX7, rfl, (by decide +kernel), igX7, tyX7_ok, nmX7, rfl, rfl, rfl, (ex_tw 29 (by rfl) rfl)⟩
theorem fX7_15 : ex_F RX7 15 7 1 (.array .int) true := ⟨RX7, TX7, 3, tyX7, rfl, (by decide +kernel), igX7, tyX7_ok, nmX7, rfl, rfl, rfl, (ex_tw 30 (by rfl) rfl)⟩
theorem fX7_19 : ex_F RX7 19 7 2 .int false := ⟨RX7, TX7, 3, tyX7, rfl, (by decide +kernel), igX7, tyX7_ok, nmX7, rfl, rfl, rfl, (ex_tw 31 (by rfl) rfl)⟩
theorem fX4_9 : ex_F RX4 9 4 0 .int false := ⟨RX4, TX4, 4, tyX4, rfl, (by decide +kernel), igX4, tyX4_ok, nmX4, rfl, rfl, rfl, (ex_tw 52 (by rfl) rfl)⟩
theorem fX6_39 : ex_F RX6 39 4 0 .int false := ⟨RX4, TX4, 4, tyX4, rfl, (by decide +kernel), igX4, tyX4_ok, nmX4, rfl, rfl, rfl, (ex_tw 53 (by rfl) rfl)⟩
theorem fX9_99 : ex_F RX9 99 4 0 .int false := ⟨RX4, TX4, 4, tyX4, rfl, (by decide +kernel), igX4, tyX4_ok, nmX4, rfl, rfl, rfl, (ex_tw 54 (by rfl) rfl)⟩
theorem fX8_71 : ex_F RX8 71 4 0 .int false := ⟨RX4, TX4, 4, tyX4, rfl, (by decide +kernel), igX4, tyX4_ok, nmX4, rfl, rfl, rfl, (ex_tw 55 (by rfl) rfl)⟩
theorem fX4_15 : ex_F RX4 15 4 1 .int false := ⟨RX4, TX4, 4, tyX4, rfl, (by decide +kernel), igX4, tyX4_ok, nmX4, rfl, rfl, rfl, (ex_tw 56 (by rfl) rfl)⟩
theorem fX8_33 : ex_F RX8 33 4 1 .int false := ⟨RX4, TX4, 4, tyX4, rfl, (by decide +kernel), igX4, tyX4_ok, nmX4, rfl, rfl, rfl, (ex_tw 57 (by rfl) rfl)⟩
theorem fX6_46 : ex_F RX6 46 4 1 .int false := ⟨RX4, TX4, 4, tyX4, rfl, (by decide +kernel), igX4, tyX4_ok, nmX4, rfl, rfl, rfl, (ex_tw 58 (by rfl) rfl)⟩
theorem fX9_102 : ex_F RX9 102 4 1 .int false := ⟨RX4, TX4, 4, tyX4, rfl, (by decide +kernel), igX4, tyX4_ok, nmX4, rfl, rfl, rfl, (ex_tw 59 (by rfl) rfl)⟩
theorem fX4_18 : ex_F RX4 18 4 2 (.array .int) true := ⟨RX4, TX4, 4, tyX4, rfl, (by decide +kernel), igX4, tyX4_ok, nmX4, rfl, rfl, rfl, (ex_tw 60 (by rfl) rfl)⟩
theorem fX4_22 : ex_F RX4 22 4 3 (.array .boolean) true := ⟨RX4, TX4, 4, tyX4, rfl, (by decide +kernel), igX4, tyX4_ok, nmX4, rfl, rfl, rfl, (ex_tw 61 (by rfl) rfl)⟩
theorem fX2_9 : ex_F RX2 9 2 0 .int false := ⟨RX2, TX2, 2, tyX2, rfl, (by decide +kernel), igX2, tyX2_ok, nmX2, rfl, rfl, rfl, (ex_tw 80 (by rfl) rfl)⟩
theorem fX9_124 : ex_F RX9 124 2 0 .int false := ⟨RX2, TX2, 2, tyX2, rfl, (by decide +kernel), igX2, tyX2_ok, nmX2, rfl, rfl, rfl, (ex_tw 81 (by rfl) rfl)⟩
theorem fX2_17 : ex_F RX2 17 2 1 (.array (.object "TalliedWindows$Filter")) true := ⟨RX2, TX2, 2, tyX2, rfl, (by decide +kernel), igX2, tyX2_ok, nmX2, rfl, rfl, rfl, (ex_tw 82 (by rfl) rfl)⟩
theorem fX6_12 : ex_F RX6 12 6 0 (.object "TalliedWindows$Picture") true := ⟨RX6, TX6, 4, tyX6, rfl, (by decide +kernel), igX6, tyX6_ok, nmX6, rfl, rfl, rfl, (ex_tw 88 (by rfl) rfl)⟩
theorem fX9_86 : ex_F RX9 86 6 0 (.object "TalliedWindows$Picture") true := ⟨RX6, TX6, 4, tyX6, rfl, (by decide +kernel), igX6, tyX6_ok, nmX6, rfl, rfl, rfl, (ex_tw 89 (by rfl) rfl)⟩
theorem fX6_21 : ex_F RX6 21 6 1 (.object "TalliedWindows$Filters") true := ⟨RX6, TX6, 4, tyX6, rfl, (by decide +kernel), igX6, tyX6_ok, nmX6, rfl, rfl, rfl, (ex_tw 90 (by rfl) rfl)⟩
theorem fX9_120 : ex_F RX9 120 6 1 (.object "TalliedWindows$Filters") true := ⟨RX6, TX6, 4, tyX6, rfl, (by decide +kernel), igX6, tyX6_ok, nmX6, rfl, rfl, rfl, (ex_tw 91 (by rfl) rfl)⟩
theorem fX6_25 : ex_F RX6 25 6 2 .int false := ⟨RX6, TX6, 4, tyX6, rfl, (by decide +kernel), igX6, tyX6_ok, nmX6, rfl, rfl, rfl, (ex_tw 92 (by rfl) rfl)⟩
theorem fX9_129 : ex_F RX9 129 6 2 .int false := ⟨RX6, TX6, 4, tyX6, rfl, (by decide +kernel), igX6, tyX6_ok, nmX6, rfl, rfl, rfl, (ex_tw 93 (by rfl) rfl)⟩
theorem fX6_29 : ex_F RX6 29 6 3 .int false := ⟨RX6, TX6, 4, tyX6, rfl, (by decide +kernel), igX6, tyX6_ok, nmX6, rfl, rfl, rfl, (ex_tw 94 (by rfl) rfl)⟩
theorem fX9_224 : ex_F RX9 224 6 3 .int false := ⟨RX6, TX6, 4, tyX6, rfl, (by decide +kernel), igX6, tyX6_ok, nmX6, rfl, rfl, rfl, (ex_tw 95 (by rfl) rfl)⟩
theorem fX3_7 : ex_F RX3 7 3 0 .int false := ⟨RX3, TX3, 3, tyX3, rfl, (by decide +kernel), igX3, tyX3_ok, nmX3, rfl, rfl, rfl, (ex_tw 115 (by rfl) rfl)⟩
theorem fX9_136 : ex_F RX9 136 3 0 .int false := ⟨RX3, TX3, 3, tyX3, rfl, (by decide +kernel), igX3, tyX3_ok, nmX3, rfl, rfl, rfl, (ex_tw 116 (by rfl) rfl)⟩
theorem fX3_13 : ex_F RX3 13 3 1 .int false := ⟨RX3, TX3, 3, tyX3, rfl, (by decide +kernel), igX3, tyX3_ok, nmX3, rfl, rfl, rfl, (ex_tw 117 (by rfl) rfl)⟩
theorem fX3_18 : ex_F RX3 18 3 2 (.array (.object "TalliedWindows$Picture")) true := ⟨RX3, TX3, 3, tyX3, rfl, (by decide +kernel), igX3, tyX3_ok, nmX3, rfl, rfl, rfl, (ex_tw 118 (by rfl) rfl)⟩
theorem fX0_9 : ex_F RX0 9 0 0 .int false := ⟨RX0, TX0, 4, tyX0, rfl, (by decide +kernel), igX0, tyX0_ok, nmX0, rfl, rfl, rfl, (ex_tw 132 (by rfl) rfl)⟩
theorem fX9_132 : ex_F RX9 132 0 0 .int false := ⟨RX0, TX0, 4, tyX0, rfl, (by decide +kernel), igX0, tyX0_ok, nmX0, rfl, rfl, rfl, (ex_tw 133 (by rfl) rfl)⟩
theorem fX0_15 : ex_F RX0 15 0 1 (.array .int) true := ⟨RX0, TX0, 4, tyX0, rfl, (by decide +kernel), igX0, tyX0_ok, nmX0, rfl, rfl, rfl, (ex_tw 134 (by rfl) rfl)⟩
theorem fX0_19 : ex_F RX0 19 0 2 (.array .int) true := ⟨RX0, TX0, 4, tyX0, rfl, (by decide +kernel), igX0, tyX0_ok, nmX0, rfl, rfl, rfl, (ex_tw 135 (by rfl) rfl)⟩
theorem fX0_22 : ex_F RX0 22 0 3 (.array .int) true := ⟨RX0, TX0, 4, tyX0, rfl, (by decide +kernel), igX0, tyX0_ok, nmX0, rfl, rfl, rfl, (ex_tw 136 (by rfl) rfl)⟩
theorem fX8_9 : ex_F RX8 9 8 0 .int false := ⟨RX8, TX8, 3, tyX8, rfl, (by decide +kernel), igX8, tyX8_ok, nmX8, rfl, rfl, rfl, (ex_tw 152 (by rfl) rfl)⟩
theorem fX9_184 : ex_F RX9 184 8 0 .int false := ⟨RX8, TX8, 3, tyX8, rfl, (by decide +kernel), igX8, tyX8_ok, nmX8, rfl, rfl, rfl, (ex_tw 153 (by rfl) rfl)⟩
theorem fX8_15 : ex_F RX8 15 8 1 (.array .int) true := ⟨RX8, TX8, 3, tyX8, rfl, (by decide +kernel), igX8, tyX8_ok, nmX8, rfl, rfl, rfl, (ex_tw 154 (by rfl) rfl)⟩
theorem fX8_19 : ex_F RX8 19 8 2 (.array .int) true := ⟨RX8, TX8, 3, tyX8, rfl, (by decide +kernel), igX8, tyX8_ok, nmX8, rfl, rfl, rfl, (ex_tw 155 (by rfl) rfl)⟩
theorem fX9_10 : ex_F RX9 10 9 0 (.object "TalliedWindows$Text") true := ⟨RX9, TX9, 10, tyX9, rfl, (by decide +kernel), igX9, tyX9_ok, nmX9, rfl, rfl, rfl, (ex_tw 165 (by rfl) rfl)⟩
theorem fX9_19 : ex_F RX9 19 9 1 (.object "TalliedWindows$State") true := ⟨RX9, TX9, 10, tyX9, rfl, (by decide +kernel), igX9, tyX9_ok, nmX9, rfl, rfl, rfl, (ex_tw 166 (by rfl) rfl)⟩
theorem fX9_23 : ex_F RX9 23 9 2 (.array (.object "TalliedWindows$State")) true := ⟨RX9, TX9, 10, tyX9, rfl, (by decide +kernel), igX9, tyX9_ok, nmX9, rfl, rfl, rfl, (ex_tw 167 (by rfl) rfl)⟩
theorem fX9_27 : ex_F RX9 27 9 3 (.array .boolean) true := ⟨RX9, TX9, 10, tyX9, rfl, (by decide +kernel), igX9, tyX9_ok, nmX9, rfl, rfl, rfl, (ex_tw 168 (by rfl) rfl)⟩
theorem fX9_34 : ex_F RX9 34 9 4 (.object "TalliedWindows$History") true := ⟨RX9, TX9, 10, tyX9, rfl, (by decide +kernel), igX9, tyX9_ok, nmX9, rfl, rfl, rfl, (ex_tw 169 (by rfl) rfl)⟩
theorem fX9_41 : ex_F RX9 41 9 5 (.object "TalliedWindows$Book") true := ⟨RX9, TX9, 10, tyX9, rfl, (by decide +kernel), igX9, tyX9_ok, nmX9, rfl, rfl, rfl, (ex_tw 170 (by rfl) rfl)⟩
theorem fX9_48 : ex_F RX9 48 9 6 (.object "TalliedWindows$Window") true := ⟨RX9, TX9, 10, tyX9, rfl, (by decide +kernel), igX9, tyX9_ok, nmX9, rfl, rfl, rfl, (ex_tw 171 (by rfl) rfl)⟩
theorem fX9_55 : ex_F RX9 55 9 7 (.object "TalliedWindows$Picture") true := ⟨RX9, TX9, 10, tyX9, rfl, (by decide +kernel), igX9, tyX9_ok, nmX9, rfl, rfl, rfl, (ex_tw 172 (by rfl) rfl)⟩
theorem fX9_59 : ex_F RX9 59 9 8 (.object "TalliedWindows$Picture") true := ⟨RX9, TX9, 10, tyX9, rfl, (by decide +kernel), igX9, tyX9_ok, nmX9, rfl, rfl, rfl, (ex_tw 173 (by rfl) rfl)⟩
theorem fX9_62 : ex_F RX9 62 9 9 .int false := ⟨RX9, TX9, 10, tyX9, rfl, (by decide +kernel), igX9, tyX9_ok, nmX9, rfl, rfl, rfl, (ex_tw 174 (by rfl) rfl)⟩
theorem fX5_27 : ex_F RX5 27 5 0 (.object "TalliedWindows$Picture") true := ⟨RX5, TX5, 6, tyX5, rfl, (by decide +kernel), igX5, tyX5_ok, nmX5, rfl, rfl, rfl, (ex_tw 223 (by rfl) rfl)⟩
theorem fX5_9 : ex_F RX5 9 5 1 .int false := ⟨RX5, TX5, 6, tyX5, rfl, (by decide +kernel), igX5, tyX5_ok, nmX5, rfl, rfl, rfl, (ex_tw 224 (by rfl) rfl)⟩
theorem fX5_15 : ex_F RX5 15 5 2 .int false := ⟨RX5, TX5, 6, tyX5, rfl, (by decide +kernel), igX5, tyX5_ok, nmX5, rfl, rfl, rfl, (ex_tw 225 (by rfl) rfl)⟩
theorem fX5_18 : ex_F RX5 18 5 3 .int false := ⟨RX5, TX5, 6, tyX5, rfl, (by decide +kernel), igX5, tyX5_ok, nmX5, rfl, rfl, rfl, (ex_tw 226 (by rfl) rfl)⟩
theorem fX5_21 : ex_F RX5 21 5 4 .int false := ⟨RX5, TX5, 6, tyX5, rfl, (by decide +kernel), igX5, tyX5_ok, nmX5, rfl, rfl, rfl, (ex_tw 227 (by rfl) rfl)⟩
theorem fX5_24 : ex_F RX5 24 5 5 .int false := ⟨RX5, TX5, 6, tyX5, rfl, (by decide +kernel), igX5, tyX5_ok, nmX5, rfl, rfl, rfl, (ex_tw 228 (by rfl) rfl)⟩
theorem fX1_7 : ex_F RX1 7 1 0 .int true := ⟨RX1, TX1, 5, tyX1, rfl, (by decide +kernel), igX1, tyX1_ok, nmX1, rfl, rfl, rfl, (ex_tw 368 (by rfl) rfl)⟩
theorem fX8_68 : ex_F RX8 68 1 0 .int true := ⟨RX1, TX1, 5, tyX1, rfl, (by decide +kernel), igX1, tyX1_ok, nmX1, rfl, rfl, rfl, (ex_tw 369 (by rfl) rfl)⟩
theorem fX1_13 : ex_F RX1 13 1 1 .int true := ⟨RX1, TX1, 5, tyX1, rfl, (by decide +kernel), igX1, tyX1_ok, nmX1, rfl, rfl, rfl, (ex_tw 370 (by rfl) rfl)⟩
theorem fX8_28 : ex_F RX8 28 1 1 .int true := ⟨RX1, TX1, 5, tyX1, rfl, (by decide +kernel), igX1, tyX1_ok, nmX1, rfl, rfl, rfl, (ex_tw 371 (by rfl) rfl)⟩
theorem fX1_16 : ex_F RX1 16 1 2 .int true := ⟨RX1, TX1, 5, tyX1, rfl, (by decide +kernel), igX1, tyX1_ok, nmX1, rfl, rfl, rfl, (ex_tw 372 (by rfl) rfl)⟩
theorem fX9_178 : ex_F RX9 178 1 2 .int true := ⟨RX1, TX1, 5, tyX1, rfl, (by decide +kernel), igX1, tyX1_ok, nmX1, rfl, rfl, rfl, (ex_tw 373 (by rfl) rfl)⟩
theorem fX1_19 : ex_F RX1 19 1 3 .int true := ⟨RX1, TX1, 5, tyX1, rfl, (by decide +kernel), igX1, tyX1_ok, nmX1, rfl, rfl, rfl, (ex_tw 374 (by rfl) rfl)⟩
theorem fX8_38 : ex_F RX8 38 1 3 .int true := ⟨RX1, TX1, 5, tyX1, rfl, (by decide +kernel), igX1, tyX1_ok, nmX1, rfl, rfl, rfl, (ex_tw 375 (by rfl) rfl)⟩
theorem fX1_22 : ex_F RX1 22 1 4 .int true := ⟨RX1, TX1, 5, tyX1, rfl, (by decide +kernel), igX1, tyX1_ok, nmX1, rfl, rfl, rfl, (ex_tw 376 (by rfl) rfl)⟩
theorem fX8_57 : ex_F RX8 57 1 4 .int true := ⟨RX1, TX1, 5, tyX1, rfl, (by decide +kernel), igX1, tyX1_ok, nmX1, rfl, rfl, rfl, (ex_tw 377 (by rfl) rfl)⟩
set_option maxRecDepth 20000 in
theorem fX10_7 : ex_F RX10 7 10 0 (.array .int) true := ⟨RX10, TX10, 23, tyX10, rfl, (by decide +kernel), igX10, tyX10_ok, nmX10, rfl, rfl, rfl, (ex_tw 597 (by rfl) rfl)⟩
set_option maxRecDepth 20000 in
theorem fX10_51 : ex_F RX10 51 10 1 .int false := ⟨RX10, TX10, 23, tyX10, rfl, (by decide +kernel), igX10, tyX10_ok, nmX10, rfl, rfl, rfl, (ex_tw 598 (by rfl) rfl)⟩
set_option maxRecDepth 20000 in
theorem fX10_221 : ex_F RX10 221 10 2 .int false := ⟨RX10, TX10, 23, tyX10, rfl, (by decide +kernel), igX10, tyX10_ok, nmX10, rfl, rfl, rfl, (ex_tw 599 (by rfl) rfl)⟩
set_option maxRecDepth 20000 in
theorem fX10_204 : ex_F RX10 204 10 3 .int false := ⟨RX10, TX10, 23, tyX10, rfl, (by decide +kernel), igX10, tyX10_ok, nmX10, rfl, rfl, rfl, (ex_tw 600 (by rfl) rfl)⟩
set_option maxRecDepth 20000 in
theorem fX10_13 : ex_F RX10 13 10 4 (.array .int) true := ⟨RX10, TX10, 23, tyX10, rfl, (by decide +kernel), igX10, tyX10_ok, nmX10, rfl, rfl, rfl, (ex_tw 601 (by rfl) rfl)⟩
set_option maxRecDepth 20000 in
theorem fX10_98 : ex_F RX10 98 10 5 .int false := ⟨RX10, TX10, 23, tyX10, rfl, (by decide +kernel), igX10, tyX10_ok, nmX10, rfl, rfl, rfl, (ex_tw 602 (by rfl) rfl)⟩
set_option maxRecDepth 20000 in
theorem fX10_16 : ex_F RX10 16 10 6 .int false := ⟨RX10, TX10, 23, tyX10, rfl, (by decide +kernel), igX10, tyX10_ok, nmX10, rfl, rfl, rfl, (ex_tw 603 (by rfl) rfl)⟩
set_option maxRecDepth 20000 in
theorem fX10_20 : ex_F RX10 20 10 7 (.array .int) true := ⟨RX10, TX10, 23, tyX10, rfl, (by decide +kernel), igX10, tyX10_ok, nmX10, rfl, rfl, rfl, (ex_tw 604 (by rfl) rfl)⟩
set_option maxRecDepth 20000 in
theorem fX10_127 : ex_F RX10 127 10 8 .int false := ⟨RX10, TX10, 23, tyX10, rfl, (by decide +kernel), igX10, tyX10_ok, nmX10, rfl, rfl, rfl, (ex_tw 605 (by rfl) rfl)⟩
set_option maxRecDepth 20000 in
theorem fX10_23 : ex_F RX10 23 10 9 (.array .int) true := ⟨RX10, TX10, 23, tyX10, rfl, (by decide +kernel), igX10, tyX10_ok, nmX10, rfl, rfl, rfl, (ex_tw 606 (by rfl) rfl)⟩
set_option maxRecDepth 20000 in
theorem fX10_26 : ex_F RX10 26 10 10 (.array .int) true := ⟨RX10, TX10, 23, tyX10, rfl, (by decide +kernel), igX10, tyX10_ok, nmX10, rfl, rfl, rfl, (ex_tw 607 (by rfl) rfl)⟩
set_option maxRecDepth 20000 in
theorem fX10_29 : ex_F RX10 29 10 11 (.array .int) true := ⟨RX10, TX10, 23, tyX10, rfl, (by decide +kernel), igX10, tyX10_ok, nmX10, rfl, rfl, rfl, (ex_tw 608 (by rfl) rfl)⟩
set_option maxRecDepth 20000 in
theorem fX10_32 : ex_F RX10 32 10 12 (.array .int) true := ⟨RX10, TX10, 23, tyX10, rfl, (by decide +kernel), igX10, tyX10_ok, nmX10, rfl, rfl, rfl, (ex_tw 609 (by rfl) rfl)⟩
set_option maxRecDepth 20000 in
theorem fX10_35 : ex_F RX10 35 10 13 (.array .int) true := ⟨RX10, TX10, 23, tyX10, rfl, (by decide +kernel), igX10, tyX10_ok, nmX10, rfl, rfl, rfl, (ex_tw 610 (by rfl) rfl)⟩
set_option maxRecDepth 20000 in
theorem fX10_38 : ex_F RX10 38 10 14 (.array .int) true := ⟨RX10, TX10, 23, tyX10, rfl, (by decide +kernel), igX10, tyX10_ok, nmX10, rfl, rfl, rfl, (ex_tw 611 (by rfl) rfl)⟩
set_option maxRecDepth 20000 in
theorem fX10_163 : ex_F RX10 163 10 15 .int false := ⟨RX10, TX10, 23, tyX10, rfl, (by decide +kernel), igX10, tyX10_ok, nmX10, rfl, rfl, rfl, (ex_tw 612 (by rfl) rfl)⟩
set_option maxRecDepth 20000 in
theorem fX10_74 : ex_F RX10 74 10 16 .int false := ⟨RX10, TX10, 23, tyX10, rfl, (by decide +kernel), igX10, tyX10_ok, nmX10, rfl, rfl, rfl, (ex_tw 613 (by rfl) rfl)⟩
set_option maxRecDepth 20000 in
theorem fX10_77 : ex_F RX10 77 10 17 .int false := ⟨RX10, TX10, 23, tyX10, rfl, (by decide +kernel), igX10, tyX10_ok, nmX10, rfl, rfl, rfl, (ex_tw 614 (by rfl) rfl)⟩
set_option maxRecDepth 20000 in
theorem fX10_80 : ex_F RX10 80 10 18 .int false := ⟨RX10, TX10, 23, tyX10, rfl, (by decide +kernel), igX10, tyX10_ok, nmX10, rfl, rfl, rfl, (ex_tw 615 (by rfl) rfl)⟩
set_option maxRecDepth 20000 in
theorem fX10_83 : ex_F RX10 83 10 19 .int false := ⟨RX10, TX10, 23, tyX10, rfl, (by decide +kernel), igX10, tyX10_ok, nmX10, rfl, rfl, rfl, (ex_tw 616 (by rfl) rfl)⟩
set_option maxRecDepth 20000 in
theorem fX10_41 : ex_F RX10 41 10 20 (.array .int) true := ⟨RX10, TX10, 23, tyX10, rfl, (by decide +kernel), igX10, tyX10_ok, nmX10, rfl, rfl, rfl, (ex_tw 617 (by rfl) rfl)⟩
set_option maxRecDepth 20000 in
theorem fX10_121 : ex_F RX10 121 10 21 .int false := ⟨RX10, TX10, 23, tyX10, rfl, (by decide +kernel), igX10, tyX10_ok, nmX10, rfl, rfl, rfl, (ex_tw 618 (by rfl) rfl)⟩
set_option maxRecDepth 20000 in
theorem fX10_44 : ex_F RX10 44 10 22 (.array .int) true := ⟨RX10, TX10, 23, tyX10, rfl, (by decide +kernel), igX10, tyX10_ok, nmX10, rfl, rfl, rfl, (ex_tw 619 (by rfl) rfl)⟩
theorem nL_7 : ex_N RL 7 9 10 [.null, .null, .null, .null, .null, .null, .null, .null, .null, .int 0] := ⟨RX9, TX9, tyX9, rfl, igX9, tyX9_ok, (ex_tw 14 (by rfl) rfl), (ex_tw 15 (by rfl) rfl), (ex_tw 1 (by rfl) rfl), fun b j hj => by
  match j, hj with
  | 0, _ => rfl
  | 1, _ => rfl
  | 2, _ => rfl
  | 3, _ => rfl
  | 4, _ => rfl
  | 5, _ => rfl
  | 6, _ => rfl
  | 7, _ => rfl
  | 8, _ => rfl
  | 9, _ => rfl
  | q + 10, h => exact absurd h (by omega)⟩
theorem lL_7 : Cond.classLink RL 7 RX9 ∈ ex_g := (ex_tw 14 (by rfl) rfl)
theorem nX9_7 : ex_N RX9 7 7 3 [.int 0, .null, .int 0] := ⟨RX7, TX7, tyX7, rfl, igX7, tyX7_ok, (ex_tw 22 (by rfl) rfl), (ex_tw 23 (by rfl) rfl), (ex_tw 2 (by rfl) rfl), fun b j hj => by
  match j, hj with
  | 0, _ => rfl
  | 1, _ => rfl
  | 2, _ => rfl
  | q + 3, h => exact absurd h (by omega)⟩
theorem lX9_7 : Cond.classLink RX9 7 RX7 ∈ ex_g := (ex_tw 22 (by rfl) rfl)
theorem nX9_16 : ex_N RX9 16 6 4 [.null, .null, .int 0, .int 0] := ⟨RX6, TX6, tyX6, rfl, igX6, tyX6_ok, (ex_tw 40 (by rfl) rfl), (ex_tw 41 (by rfl) rfl), (ex_tw 3 (by rfl) rfl), fun b j hj => by
  match j, hj with
  | 0, _ => rfl
  | 1, _ => rfl
  | 2, _ => rfl
  | 3, _ => rfl
  | q + 4, h => exact absurd h (by omega)⟩
theorem lX9_16 : Cond.classLink RX9 16 RX6 ∈ ex_g := (ex_tw 40 (by rfl) rfl)
theorem nX6_9 : ex_N RX6 9 4 4 [.int 0, .int 0, .null, .null] := ⟨RX4, TX4, tyX4, rfl, igX4, tyX4_ok, (ex_tw 46 (by rfl) rfl), (ex_tw 47 (by rfl) rfl), (ex_tw 4 (by rfl) rfl), fun b j hj => by
  match j, hj with
  | 0, _ => rfl
  | 1, _ => rfl
  | 2, _ => rfl
  | 3, _ => rfl
  | q + 4, h => exact absurd h (by omega)⟩
theorem lX6_9 : Cond.classLink RX6 9 RX4 ∈ ex_g := (ex_tw 46 (by rfl) rfl)
theorem nX6_18 : ex_N RX6 18 2 2 [.int 0, .null] := ⟨RX2, TX2, tyX2, rfl, igX2, tyX2_ok, (ex_tw 72 (by rfl) rfl), (ex_tw 73 (by rfl) rfl), (ex_tw 5 (by rfl) rfl), fun b j hj => by
  match j, hj with
  | 0, _ => rfl
  | 1, _ => rfl
  | q + 2, h => exact absurd h (by omega)⟩
theorem lX6_18 : Cond.classLink RX6 18 RX2 ∈ ex_g := (ex_tw 72 (by rfl) rfl)
theorem nX2_15 : ex_N RX2 15 1 5 [.int 0, .int 0, .int 0, .int 0, .int 0] := ⟨RX1, TX1, tyX1, rfl, igX1, tyX1_ok, (ex_tw 78 (by rfl) rfl), (ex_tw 363 (by rfl) rfl), (ex_tw 11 (by rfl) rfl), fun b j hj => by
  match j, hj with
  | 0, _ => rfl
  | 1, _ => rfl
  | 2, _ => rfl
  | 3, _ => rfl
  | 4, _ => rfl
  | q + 5, h => exact absurd h (by omega)⟩
theorem lX2_15 : Cond.classLink RX2 15 RX1 ∈ ex_g := (ex_tw 78 (by rfl) rfl)
theorem nX9_31 : ex_N RX9 31 3 3 [.int 0, .int 0, .null] := ⟨RX3, TX3, tyX3, rfl, igX3, tyX3_ok, (ex_tw 106 (by rfl) rfl), (ex_tw 107 (by rfl) rfl), (ex_tw 6 (by rfl) rfl), fun b j hj => by
  match j, hj with
  | 0, _ => rfl
  | 1, _ => rfl
  | 2, _ => rfl
  | q + 3, h => exact absurd h (by omega)⟩
theorem lX9_31 : Cond.classLink RX9 31 RX3 ∈ ex_g := (ex_tw 106 (by rfl) rfl)
theorem nX3_16 : ex_N RX3 16 4 4 [.int 0, .int 0, .null, .null] := ⟨RX4, TX4, tyX4, rfl, igX4, tyX4_ok, (ex_tw 112 (by rfl) rfl), (ex_tw 47 (by rfl) rfl), (ex_tw 4 (by rfl) rfl), fun b j hj => by
  match j, hj with
  | 0, _ => rfl
  | 1, _ => rfl
  | 2, _ => rfl
  | 3, _ => rfl
  | q + 4, h => exact absurd h (by omega)⟩
theorem lX3_16 : Cond.classLink RX3 16 RX4 ∈ ex_g := (ex_tw 112 (by rfl) rfl)
theorem nX9_38 : ex_N RX9 38 0 4 [.int 0, .null, .null, .null] := ⟨RX0, TX0, tyX0, rfl, igX0, tyX0_ok, (ex_tw 126 (by rfl) rfl), (ex_tw 127 (by rfl) rfl), (ex_tw 7 (by rfl) rfl), fun b j hj => by
  match j, hj with
  | 0, _ => rfl
  | 1, _ => rfl
  | 2, _ => rfl
  | 3, _ => rfl
  | q + 4, h => exact absurd h (by omega)⟩
theorem lX9_38 : Cond.classLink RX9 38 RX0 ∈ ex_g := (ex_tw 126 (by rfl) rfl)
theorem nX9_45 : ex_N RX9 45 8 3 [.int 0, .null, .null] := ⟨RX8, TX8, tyX8, rfl, igX8, tyX8_ok, (ex_tw 146 (by rfl) rfl), (ex_tw 147 (by rfl) rfl), (ex_tw 8 (by rfl) rfl), fun b j hj => by
  match j, hj with
  | 0, _ => rfl
  | 1, _ => rfl
  | 2, _ => rfl
  | q + 3, h => exact absurd h (by omega)⟩
theorem lX9_45 : Cond.classLink RX9 45 RX8 ∈ ex_g := (ex_tw 146 (by rfl) rfl)
theorem nX9_52 : ex_N RX9 52 4 4 [.int 0, .int 0, .null, .null] := ⟨RX4, TX4, tyX4, rfl, igX4, tyX4_ok, (ex_tw 163 (by rfl) rfl), (ex_tw 47 (by rfl) rfl), (ex_tw 4 (by rfl) rfl), fun b j hj => by
  match j, hj with
  | 0, _ => rfl
  | 1, _ => rfl
  | 2, _ => rfl
  | 3, _ => rfl
  | q + 4, h => exact absurd h (by omega)⟩
theorem lX9_52 : Cond.classLink RX9 52 RX4 ∈ ex_g := (ex_tw 163 (by rfl) rfl)
theorem nX7_23 : ex_N RX7 23 5 6 [.null, .int 0, .int 0, .int 0, .int 0, .int 0] := ⟨RX5, TX5, tyX5, rfl, igX5, tyX5_ok, (ex_tw 217 (by rfl) rfl), (ex_tw 218 (by rfl) rfl), (ex_tw 10 (by rfl) rfl), fun b j hj => by
  match j, hj with
  | 0, _ => rfl
  | 1, _ => rfl
  | 2, _ => rfl
  | 3, _ => rfl
  | 4, _ => rfl
  | 5, _ => rfl
  | q + 6, h => exact absurd h (by omega)⟩
theorem lX7_23 : Cond.classLink RX7 23 RX5 ∈ ex_g := (ex_tw 217 (by rfl) rfl)
theorem nX9_158 : ex_N RX9 158 1 5 [.int 0, .int 0, .int 0, .int 0, .int 0] := ⟨RX1, TX1, tyX1, rfl, igX1, tyX1_ok, (ex_tw 362 (by rfl) rfl), (ex_tw 363 (by rfl) rfl), (ex_tw 11 (by rfl) rfl), fun b j hj => by
  match j, hj with
  | 0, _ => rfl
  | 1, _ => rfl
  | 2, _ => rfl
  | 3, _ => rfl
  | 4, _ => rfl
  | q + 5, h => exact absurd h (by omega)⟩
theorem lX9_158 : Cond.classLink RX9 158 RX1 ∈ ex_g := (ex_tw 362 (by rfl) rfl)
set_option maxRecDepth 20000 in
theorem nL_10 : ex_N RL 10 10 23 [.null, .int 0, .int 0, .int 0, .null, .int 0, .int 0, .null, .int 0, .null, .null, .null, .null, .null, .null, .int 0, .int 0, .int 0, .int 0, .int 0, .null, .int 0, .null] := ⟨RX10, TX10, tyX10, rfl, igX10, tyX10_ok, (ex_tw 591 (by rfl) rfl), (ex_tw 592 (by rfl) rfl), (ex_tw 9 (by rfl) rfl), fun b j hj => by
  match j, hj with
  | 0, _ => rfl
  | 1, _ => rfl
  | 2, _ => rfl
  | 3, _ => rfl
  | 4, _ => rfl
  | 5, _ => rfl
  | 6, _ => rfl
  | 7, _ => rfl
  | 8, _ => rfl
  | 9, _ => rfl
  | 10, _ => rfl
  | 11, _ => rfl
  | 12, _ => rfl
  | 13, _ => rfl
  | 14, _ => rfl
  | 15, _ => rfl
  | 16, _ => rfl
  | 17, _ => rfl
  | 18, _ => rfl
  | 19, _ => rfl
  | 20, _ => rfl
  | 21, _ => rfl
  | 22, _ => rfl
  | q + 23, h => exact absurd h (by omega)⟩
set_option maxRecDepth 20000 in
theorem lL_10 : Cond.classLink RL 10 RX10 ∈ ex_g := (ex_tw 591 (by rfl) rfl)
theorem vL_9 : ex_I RL 9 mX9_init 0 := ⟨cmX9_init, (ex_tw 17 (by rfl) rfl), rfl, rfl, (Or.inl (ex_tw 16 (by rfl) rfl))⟩
theorem oX9_1 : Cond.methodLink RX9 1 Lib.objectInit ∈ ex_g := (ex_tw 19 (by rfl) rfl)
theorem oX7_3 : Cond.methodLink RX7 3 Lib.objectInit ∈ ex_g := (ex_tw 27 (by rfl) rfl)
theorem oX6_3 : Cond.methodLink RX6 3 Lib.objectInit ∈ ex_g := (ex_tw 45 (by rfl) rfl)
theorem oX4_3 : Cond.methodLink RX4 3 Lib.objectInit ∈ ex_g := (ex_tw 51 (by rfl) rfl)
theorem oX2_3 : Cond.methodLink RX2 3 Lib.objectInit ∈ ex_g := (ex_tw 77 (by rfl) rfl)
theorem vX9_33 : ex_I RX9 33 mX3_init 0 := ⟨cmX3_init, (ex_tw 109 (by rfl) rfl), rfl, rfl, (Or.inl (ex_tw 108 (by rfl) rfl))⟩
theorem oX3_1 : Cond.methodLink RX3 1 Lib.objectInit ∈ ex_g := (ex_tw 111 (by rfl) rfl)
theorem oX0_3 : Cond.methodLink RX0 3 Lib.objectInit ∈ ex_g := (ex_tw 131 (by rfl) rfl)
theorem oX8_3 : Cond.methodLink RX8 3 Lib.objectInit ∈ ex_g := (ex_tw 151 (by rfl) rfl)
theorem vL_13 : ex_V RL 13 mX9_feed 1 := ⟨cmX9_feed, (ex_tw 196 (by rfl) rfl), (ex_tw 197 (by rfl) rfl), (ex_tw 198 (by rfl) rfl)⟩
theorem vX9_66 : ex_S RX9 66 mX9_within 3 := ⟨cmX9_within, (ex_tw 201 (by rfl) rfl), (Or.inl (ex_tw 200 (by rfl) rfl))⟩
theorem vX9_71 : ex_V RX9 71 mX7_append 1 := ⟨cmX7_append, (ex_tw 204 (by rfl) rfl), (ex_tw 205 (by rfl) rfl), (ex_tw 206 (by rfl) rfl)⟩
theorem vL_18 : ex_V RL 18 mX9_picture 0 := ⟨cmX9_picture, (ex_tw 209 (by rfl) rfl), (ex_tw 210 (by rfl) rfl), (ex_tw 211 (by rfl) rfl)⟩
theorem vX9_75 : ex_V RX9 75 mX7_readInto 1 := ⟨cmX7_readInto, (ex_tw 213 (by rfl) rfl), (ex_tw 214 (by rfl) rfl), (ex_tw 215 (by rfl) rfl)⟩
theorem vX7_25 : ex_I RX7 25 mX5_init 1 := ⟨cmX5_init, (ex_tw 220 (by rfl) rfl), rfl, rfl, (Or.inl (ex_tw 219 (by rfl) rfl))⟩
theorem oX5_3 : Cond.methodLink RX5 3 Lib.objectInit ∈ ex_g := (ex_tw 222 (by rfl) rfl)
theorem vX7_28 : ex_V RX7 28 mX5_take 1 := ⟨cmX5_take, (ex_tw 242 (by rfl) rfl), (ex_tw 243 (by rfl) rfl), (ex_tw 244 (by rfl) rfl)⟩
theorem vX5_31 : ex_V RX5 31 mX5_takeRowEnd 1 := ⟨cmX5_takeRowEnd, (ex_tw 246 (by rfl) rfl), (ex_tw 247 (by rfl) rfl), (ex_tw 248 (by rfl) rfl)⟩
theorem vX5_45 : ex_V RX5 45 mX4_setSize 2 := ⟨cmX4_setSize, (ex_tw 250 (by rfl) rfl), (ex_tw 251 (by rfl) rfl), (ex_tw 252 (by rfl) rfl)⟩
theorem vX5_35 : ex_S RX5 35 mX5_signOf 1 := ⟨cmX5_signOf, (ex_tw 256 (by rfl) rfl), (Or.inl (ex_tw 255 (by rfl) rfl))⟩
theorem vX5_39 : ex_V RX5 39 mX5_takeFirstSign 1 := ⟨cmX5_takeFirstSign, (ex_tw 259 (by rfl) rfl), (ex_tw 261 (by rfl) rfl), (ex_ts 0 (by rfl) rfl)⟩
theorem vX5_42 : ex_V RX5 42 mX5_takeSecondSign 1 := ⟨cmX5_takeSecondSign, (ex_tw 263 (by rfl) rfl), (ex_tw 265 (by rfl) rfl), (ex_ts 1 (by rfl) rfl)⟩
theorem vX5_51 : ex_V RX5 51 mX4_setInOrder 3 := ⟨cmX4_setInOrder, (ex_tw 267 (by rfl) rfl), (ex_tw 268 (by rfl) rfl), (ex_tw 269 (by rfl) rfl)⟩
theorem vX7_32 : ex_V RX7 32 mX5_takeRowEnd 1 := ⟨cmX5_takeRowEnd, (ex_tw 271 (by rfl) rfl), (ex_tw 247 (by rfl) rfl), (ex_tw 248 (by rfl) rfl)⟩
theorem vX9_79 : ex_V RX9 79 mX7_placeRead 0 := ⟨cmX7_placeRead, (ex_tw 272 (by rfl) rfl), (ex_tw 273 (by rfl) rfl), (ex_tw 274 (by rfl) rfl)⟩
theorem vX9_83 : ex_V RX9 83 mX7_clear 0 := ⟨cmX7_clear, (ex_tw 276 (by rfl) rfl), (ex_tw 277 (by rfl) rfl), (ex_tw 278 (by rfl) rfl)⟩
theorem vX9_89 : ex_V RX9 89 mX3_remember 1 := ⟨cmX3_remember, (ex_tw 280 (by rfl) rfl), (ex_tw 281 (by rfl) rfl), (ex_tw 282 (by rfl) rfl)⟩
theorem vX3_23 : ex_V RX3 23 mX4_become 1 := ⟨cmX4_become, (ex_tw 284 (by rfl) rfl), (ex_tw 285 (by rfl) rfl), (ex_tw 286 (by rfl) rfl)⟩
theorem vX4_34 : ex_V RX4 34 mX4_setSize 2 := ⟨cmX4_setSize, (ex_tw 288 (by rfl) rfl), (ex_tw 251 (by rfl) rfl), (ex_tw 252 (by rfl) rfl)⟩
theorem vX4_38 : ex_V RX4 38 mX4_dots 0 := ⟨cmX4_dots, (ex_tw 289 (by rfl) rfl), (ex_tw 290 (by rfl) rfl), (ex_tw 291 (by rfl) rfl)⟩
theorem vX9_93 : ex_V RX9 93 mX4_become 1 := ⟨cmX4_become, (ex_tw 293 (by rfl) rfl), (ex_tw 285 (by rfl) rfl), (ex_tw 286 (by rfl) rfl)⟩
theorem vX9_96 : ex_V RX9 96 mX4_dots 0 := ⟨cmX4_dots, (ex_tw 294 (by rfl) rfl), (ex_tw 290 (by rfl) rfl), (ex_tw 291 (by rfl) rfl)⟩
theorem vL_23 : ex_V RL 23 mX9_fault 0 := ⟨cmX9_fault, (ex_tw 295 (by rfl) rfl), (ex_tw 296 (by rfl) rfl), (ex_tw 297 (by rfl) rfl)⟩
theorem vL_27 : ex_V RL 27 mX9_told 1 := ⟨cmX9_told, (ex_tw 299 (by rfl) rfl), (ex_tw 300 (by rfl) rfl), (ex_tw 301 (by rfl) rfl)⟩
theorem vX9_105 : ex_V RX9 105 mX4_maskedDots 0 := ⟨cmX4_maskedDots, (ex_tw 303 (by rfl) rfl), (ex_tw 304 (by rfl) rfl), (ex_tw 305 (by rfl) rfl)⟩
theorem vX9_108 : ex_V RX9 108 mX4_leastGrey 0 := ⟨cmX4_leastGrey, (ex_tw 307 (by rfl) rfl), (ex_tw 308 (by rfl) rfl), (ex_tw 309 (by rfl) rfl)⟩
theorem vX9_111 : ex_V RX9 111 mX4_greatestGrey 0 := ⟨cmX4_greatestGrey, (ex_tw 311 (by rfl) rfl), (ex_tw 312 (by rfl) rfl), (ex_tw 313 (by rfl) rfl)⟩
theorem vX9_114 : ex_V RX9 114 mX4_greysTogether 0 := ⟨cmX4_greysTogether, (ex_tw 315 (by rfl) rfl), (ex_tw 316 (by rfl) rfl), (ex_tw 317 (by rfl) rfl)⟩
theorem vX9_133 : ex_V RX9 133 mX0_firstWrong 1 := ⟨cmX0_firstWrong, (ex_tw 319 (by rfl) rfl), (ex_tw 320 (by rfl) rfl), (ex_tw 321 (by rfl) rfl)⟩
theorem vX0_26 : ex_V RX0 26 mX4_has 2 := ⟨cmX4_has, (ex_tw 323 (by rfl) rfl), (ex_tw 324 (by rfl) rfl), (ex_tw 325 (by rfl) rfl)⟩
theorem vX0_32 : ex_V RX0 32 mX4_greyOf 2 := ⟨cmX4_greyOf, (ex_tw 327 (by rfl) rfl), (ex_tw 328 (by rfl) rfl), (ex_tw 329 (by rfl) rfl)⟩
theorem vX4_26 : ex_V RX4 26 mX4_has 2 := ⟨cmX4_has, (ex_tw 331 (by rfl) rfl), (ex_tw 324 (by rfl) rfl), (ex_tw 325 (by rfl) rfl)⟩
theorem vL_31 : ex_V RL 31 mX9_at 3 := ⟨cmX9_at, (ex_tw 332 (by rfl) rfl), (ex_tw 333 (by rfl) rfl), (ex_tw 334 (by rfl) rfl)⟩
theorem vX9_137 : ex_V RX9 137 mX4_has 2 := ⟨cmX4_has, (ex_tw 336 (by rfl) rfl), (ex_tw 324 (by rfl) rfl), (ex_tw 325 (by rfl) rfl)⟩
theorem vX9_142 : ex_V RX9 142 mX4_greyOf 2 := ⟨cmX4_greyOf, (ex_tw 338 (by rfl) rfl), (ex_tw 328 (by rfl) rfl), (ex_tw 329 (by rfl) rfl)⟩
theorem vX9_146 : ex_V RX9 146 mX4_isMasked 2 := ⟨cmX4_isMasked, (ex_tw 339 (by rfl) rfl), (ex_tw 340 (by rfl) rfl), (ex_tw 341 (by rfl) rfl)⟩
theorem vL_36 : ex_V RL 36 mX9_tally 5 := ⟨cmX9_tally, (ex_tw 343 (by rfl) rfl), (ex_tw 344 (by rfl) rfl), (ex_tw 345 (by rfl) rfl)⟩
theorem vX9_149 : ex_V RX9 149 mX4_dotsUpTo 5 := ⟨cmX4_dotsUpTo, (ex_tw 347 (by rfl) rfl), (ex_tw 348 (by rfl) rfl), (ex_tw 349 (by rfl) rfl)⟩
theorem vX4_50 : ex_V RX4 50 mX4_isMasked 2 := ⟨cmX4_isMasked, (ex_tw 351 (by rfl) rfl), (ex_tw 340 (by rfl) rfl), (ex_tw 341 (by rfl) rfl)⟩
theorem vX4_42 : ex_V RX4 42 mX4_greyOf 2 := ⟨cmX4_greyOf, (ex_tw 352 (by rfl) rfl), (ex_tw 328 (by rfl) rfl), (ex_tw 329 (by rfl) rfl)⟩
theorem vL_41 : ex_V RL 41 mX9_filter 5 := ⟨cmX9_filter, (ex_tw 353 (by rfl) rfl), (ex_tw 354 (by rfl) rfl), (ex_tw 355 (by rfl) rfl)⟩
theorem vX9_153 : ex_V RX9 153 mX2_isFull 0 := ⟨cmX2_isFull, (ex_tw 357 (by rfl) rfl), (ex_tw 358 (by rfl) rfl), (ex_tw 359 (by rfl) rfl)⟩
theorem vX9_160 : ex_I RX9 160 mX1_init 5 := ⟨cmX1_init, (ex_tw 365 (by rfl) rfl), rfl, rfl, (Or.inl (ex_tw 364 (by rfl) rfl))⟩
theorem oX1_1 : Cond.methodLink RX1 1 Lib.objectInit ∈ ex_g := (ex_tw 367 (by rfl) rfl)
theorem vX9_163 : ex_V RX9 163 mX2_add 1 := ⟨cmX2_add, (ex_tw 389 (by rfl) rfl), (ex_tw 390 (by rfl) rfl), (ex_tw 391 (by rfl) rfl)⟩
theorem vX2_25 : ex_V RX2 25 mX2_isFull 0 := ⟨cmX2_isFull, (ex_tw 393 (by rfl) rfl), (ex_tw 358 (by rfl) rfl), (ex_tw 359 (by rfl) rfl)⟩
theorem vL_45 : ex_V RL 45 mX9_drop 1 := ⟨cmX9_drop, (ex_tw 395 (by rfl) rfl), (ex_tw 396 (by rfl) rfl), (ex_tw 397 (by rfl) rfl)⟩
set_option maxRecDepth 20000 in
theorem vX9_167 : ex_V RX9 167 mX2_numbered 1 := ⟨cmX2_numbered, (ex_tw 399 (by rfl) rfl), (ex_tw 400 (by rfl) rfl), (ex_tw 401 (by rfl) rfl)⟩
set_option maxRecDepth 20000 in
theorem vX9_171 : ex_V RX9 171 mX2_remove 1 := ⟨cmX2_remove, (ex_tw 404 (by rfl) rfl), (ex_tw 405 (by rfl) rfl), (ex_tw 406 (by rfl) rfl)⟩
set_option maxRecDepth 20000 in
theorem vL_49 : ex_V RL 49 mX9_fill 1 := ⟨cmX9_fill, (ex_tw 409 (by rfl) rfl), (ex_tw 410 (by rfl) rfl), (ex_tw 411 (by rfl) rfl)⟩
set_option maxRecDepth 20000 in
theorem vL_53 : ex_V RL 53 mX9_would 4 := ⟨cmX9_would, (ex_tw 413 (by rfl) rfl), (ex_tw 414 (by rfl) rfl), (ex_tw 415 (by rfl) rfl)⟩
set_option maxRecDepth 20000 in
theorem vX9_174 : ex_V RX9 174 mX8_lookAt 5 := ⟨cmX8_lookAt, (ex_tw 417 (by rfl) rfl), (ex_tw 418 (by rfl) rfl), (ex_tw 419 (by rfl) rfl)⟩
set_option maxRecDepth 20000 in
theorem vX8_22 : ex_S RX8 22 mJ7_fill_53178 2 := ⟨cmJ7_fill_53178, (ex_tw 422 (by rfl) rfl), (Or.inl (ex_tw 421 (by rfl) rfl))⟩
set_option maxRecDepth 20000 in
theorem vX8_41 : ex_S RX8 41 mX8_standingFor 3 := ⟨cmX8_standingFor, (ex_tw 425 (by rfl) rfl), (Or.inl (ex_tw 424 (by rfl) rfl))⟩
set_option maxRecDepth 20000 in
theorem vX8_78 : ex_S RX8 78 mJ9_floorMod_7cf53 2 := ⟨cmJ9_floorMod_7cf53, (ex_tw 429 (by rfl) rfl), (Or.inl (ex_tw 428 (by rfl) rfl))⟩
set_option maxRecDepth 20000 in
theorem vX8_83 : ex_S RX8 83 mJ9_min_7cf53 2 := ⟨cmJ9_min_7cf53, (ex_tw 432 (by rfl) rfl), (Or.inl (ex_tw 431 (by rfl) rfl))⟩
set_option maxRecDepth 20000 in
theorem vX8_45 : ex_V RX8 45 mX8_countRow 5 := ⟨cmX8_countRow, (ex_tw 434 (by rfl) rfl), (ex_tw 436 (by rfl) rfl), (ex_ts 2 (by rfl) rfl)⟩
set_option maxRecDepth 20000 in
theorem vX8_60 : ex_V RX8 60 mX8_count 2 := ⟨cmX8_count, (ex_tw 438 (by rfl) rfl), (ex_tw 440 (by rfl) rfl), (ex_ts 3 (by rfl) rfl)⟩
set_option maxRecDepth 20000 in
theorem vX8_49 : ex_V RX8 49 mX4_isMasked 2 := ⟨cmX4_isMasked, (ex_tw 442 (by rfl) rfl), (ex_tw 340 (by rfl) rfl), (ex_tw 341 (by rfl) rfl)⟩
set_option maxRecDepth 20000 in
theorem vX8_53 : ex_V RX8 53 mX4_greyOf 2 := ⟨cmX4_greyOf, (ex_tw 443 (by rfl) rfl), (ex_tw 328 (by rfl) rfl), (ex_tw 329 (by rfl) rfl)⟩
set_option maxRecDepth 20000 in
theorem vX9_181 : ex_V RX9 181 mX8_ranked 1 := ⟨cmX8_ranked, (ex_tw 444 (by rfl) rfl), (ex_tw 445 (by rfl) rfl), (ex_tw 446 (by rfl) rfl)⟩
set_option maxRecDepth 20000 in
theorem vX9_187 : ex_V RX9 187 mX8_countedBelow 1 := ⟨cmX8_countedBelow, (ex_tw 448 (by rfl) rfl), (ex_tw 449 (by rfl) rfl), (ex_tw 450 (by rfl) rfl)⟩
set_option maxRecDepth 20000 in
theorem vX9_190 : ex_V RX9 190 mX8_spread 0 := ⟨cmX8_spread, (ex_tw 452 (by rfl) rfl), (ex_tw 453 (by rfl) rfl), (ex_tw 454 (by rfl) rfl)⟩
set_option maxRecDepth 20000 in
theorem vX8_64 : ex_V RX8 64 mX8_ranked 1 := ⟨cmX8_ranked, (ex_tw 456 (by rfl) rfl), (ex_tw 445 (by rfl) rfl), (ex_tw 446 (by rfl) rfl)⟩
set_option maxRecDepth 20000 in
theorem vL_58 : ex_V RL 58 mX9_bins 1 := ⟨cmX9_bins, (ex_tw 457 (by rfl) rfl), (ex_tw 458 (by rfl) rfl), (ex_tw 459 (by rfl) rfl)⟩
set_option maxRecDepth 20000 in
theorem vX9_193 : ex_V RX9 193 mX9_lastOf 3 := ⟨cmX9_lastOf, (ex_tw 461 (by rfl) rfl), (ex_tw 463 (by rfl) rfl), (ex_ts 4 (by rfl) rfl)⟩
set_option maxRecDepth 20000 in
theorem vL_62 : ex_V RL 62 mX9_spikes 2 := ⟨cmX9_spikes, (ex_tw 465 (by rfl) rfl), (ex_tw 466 (by rfl) rfl), (ex_tw 467 (by rfl) rfl)⟩
set_option maxRecDepth 20000 in
theorem vX9_197 : ex_S RX9 197 mJ9_abs_0f7a4 1 := ⟨cmJ9_abs_0f7a4, (ex_tw 470 (by rfl) rfl), (Or.inl (ex_tw 469 (by rfl) rfl))⟩
set_option maxRecDepth 20000 in
theorem vL_67 : ex_V RL 67 mX9_dot 3 := ⟨cmX9_dot, (ex_tw 472 (by rfl) rfl), (ex_tw 473 (by rfl) rfl), (ex_tw 474 (by rfl) rfl)⟩
set_option maxRecDepth 20000 in
theorem vX9_202 : ex_V RX9 202 mX4_setGrey 3 := ⟨cmX4_setGrey, (ex_tw 476 (by rfl) rfl), (ex_tw 477 (by rfl) rfl), (ex_tw 478 (by rfl) rfl)⟩
set_option maxRecDepth 20000 in
theorem vL_71 : ex_V RL 71 mX9_mask 3 := ⟨cmX9_mask, (ex_tw 480 (by rfl) rfl), (ex_tw 481 (by rfl) rfl), (ex_tw 482 (by rfl) rfl)⟩
set_option maxRecDepth 20000 in
theorem vX9_206 : ex_V RX9 206 mX4_setMasked 3 := ⟨cmX4_setMasked, (ex_tw 484 (by rfl) rfl), (ex_tw 485 (by rfl) rfl), (ex_tw 486 (by rfl) rfl)⟩
set_option maxRecDepth 20000 in
theorem vL_76 : ex_V RL 76 mX9_turn 1 := ⟨cmX9_turn, (ex_tw 488 (by rfl) rfl), (ex_tw 489 (by rfl) rfl), (ex_tw 490 (by rfl) rfl)⟩
set_option maxRecDepth 20000 in
theorem vX9_211 : ex_V RX9 211 mX4_becomeTurned 2 := ⟨cmX4_becomeTurned, (ex_tw 493 (by rfl) rfl), (ex_tw 494 (by rfl) rfl), (ex_tw 495 (by rfl) rfl)⟩
set_option maxRecDepth 20000 in
theorem vX4_46 : ex_V RX4 46 mX4_setGrey 3 := ⟨cmX4_setGrey, (ex_tw 497 (by rfl) rfl), (ex_tw 477 (by rfl) rfl), (ex_tw 478 (by rfl) rfl)⟩
set_option maxRecDepth 20000 in
theorem vX4_53 : ex_V RX4 53 mX4_setMasked 3 := ⟨cmX4_setMasked, (ex_tw 498 (by rfl) rfl), (ex_tw 485 (by rfl) rfl), (ex_tw 486 (by rfl) rfl)⟩
set_option maxRecDepth 20000 in
theorem vL_80 : ex_V RL 80 mX9_filtered 1 := ⟨cmX9_filtered, (ex_tw 499 (by rfl) rfl), (ex_tw 500 (by rfl) rfl), (ex_tw 501 (by rfl) rfl)⟩
set_option maxRecDepth 20000 in
theorem vX9_215 : ex_V RX9 215 mX9_apply 1 := ⟨cmX9_apply, (ex_tw 503 (by rfl) rfl), (ex_tw 505 (by rfl) rfl), (ex_ts 5 (by rfl) rfl)⟩
set_option maxRecDepth 20000 in
theorem vX9_218 : ex_V RX9 218 mX4_greysOtherThan 1 := ⟨cmX4_greysOtherThan, (ex_tw 507 (by rfl) rfl), (ex_tw 508 (by rfl) rfl), (ex_tw 509 (by rfl) rfl)⟩
set_option maxRecDepth 20000 in
theorem vL_84 : ex_V RL 84 mX9_all 0 := ⟨cmX9_all, (ex_tw 511 (by rfl) rfl), (ex_tw 512 (by rfl) rfl), (ex_tw 513 (by rfl) rfl)⟩
set_option maxRecDepth 20000 in
theorem vL_88 : ex_V RL 88 mX9_until 2 := ⟨cmX9_until, (ex_tw 515 (by rfl) rfl), (ex_tw 516 (by rfl) rfl), (ex_tw 517 (by rfl) rfl)⟩
set_option maxRecDepth 20000 in
theorem vL_92 : ex_V RL 92 mX9_noise 1 := ⟨cmX9_noise, (ex_tw 519 (by rfl) rfl), (ex_tw 520 (by rfl) rfl), (ex_tw 521 (by rfl) rfl)⟩
set_option maxRecDepth 20000 in
theorem vX9_221 : ex_V RX9 221 mX6_speckle 0 := ⟨cmX6_speckle, (ex_tw 523 (by rfl) rfl), (ex_tw 524 (by rfl) rfl), (ex_tw 525 (by rfl) rfl)⟩
set_option maxRecDepth 20000 in
theorem vX6_42 : ex_V RX6 42 mX6_draw 1 := ⟨cmX6_draw, (ex_tw 527 (by rfl) rfl), (ex_tw 529 (by rfl) rfl), (ex_ts 6 (by rfl) rfl)⟩
set_option maxRecDepth 20000 in
theorem vX6_49 : ex_V RX6 49 mX4_setGrey 3 := ⟨cmX4_setGrey, (ex_tw 535 (by rfl) rfl), (ex_tw 477 (by rfl) rfl), (ex_tw 478 (by rfl) rfl)⟩
set_option maxRecDepth 20000 in
theorem vL_96 : ex_V RL 96 mX9_undo 1 := ⟨cmX9_undo, (ex_tw 536 (by rfl) rfl), (ex_tw 537 (by rfl) rfl), (ex_tw 538 (by rfl) rfl)⟩
set_option maxRecDepth 20000 in
theorem vX9_227 : ex_V RX9 227 mX3_takeBack 2 := ⟨cmX3_takeBack, (ex_tw 540 (by rfl) rfl), (ex_tw 541 (by rfl) rfl), (ex_tw 542 (by rfl) rfl)⟩
set_option maxRecDepth 20000 in
theorem vL_100 : ex_V RL 100 mX9_write 3 := ⟨cmX9_write, (ex_tw 545 (by rfl) rfl), (ex_tw 546 (by rfl) rfl), (ex_tw 547 (by rfl) rfl)⟩
set_option maxRecDepth 20000 in
theorem vX9_231 : ex_V RX9 231 mX0_add 3 := ⟨cmX0_add, (ex_tw 549 (by rfl) rfl), (ex_tw 550 (by rfl) rfl), (ex_tw 551 (by rfl) rfl)⟩
set_option maxRecDepth 20000 in
theorem vL_104 : ex_V RL 104 mX9_tear 0 := ⟨cmX9_tear, (ex_tw 554 (by rfl) rfl), (ex_tw 555 (by rfl) rfl), (ex_tw 556 (by rfl) rfl)⟩
set_option maxRecDepth 20000 in
theorem vL_108 : ex_V RL 108 mX9_seed 1 := ⟨cmX9_seed, (ex_tw 558 (by rfl) rfl), (ex_tw 559 (by rfl) rfl), (ex_tw 560 (by rfl) rfl)⟩
set_option maxRecDepth 20000 in
theorem vL_112 : ex_V RL 112 mX9_keep 1 := ⟨cmX9_keep, (ex_tw 562 (by rfl) rfl), (ex_tw 563 (by rfl) rfl), (ex_tw 564 (by rfl) rfl)⟩
set_option maxRecDepth 20000 in
theorem vX9_234 : ex_V RX9 234 mX6_become 1 := ⟨cmX6_become, (ex_tw 566 (by rfl) rfl), (ex_tw 567 (by rfl) rfl), (ex_tw 568 (by rfl) rfl)⟩
set_option maxRecDepth 20000 in
theorem vX6_32 : ex_V RX6 32 mX4_become 1 := ⟨cmX4_become, (ex_tw 570 (by rfl) rfl), (ex_tw 285 (by rfl) rfl), (ex_tw 286 (by rfl) rfl)⟩
set_option maxRecDepth 20000 in
theorem vX6_36 : ex_V RX6 36 mX2_become 1 := ⟨cmX2_become, (ex_tw 571 (by rfl) rfl), (ex_tw 572 (by rfl) rfl), (ex_tw 573 (by rfl) rfl)⟩
set_option maxRecDepth 20000 in
theorem vX9_237 : ex_V RX9 237 mX3_forget 0 := ⟨cmX3_forget, (ex_tw 575 (by rfl) rfl), (ex_tw 576 (by rfl) rfl), (ex_tw 577 (by rfl) rfl)⟩
set_option maxRecDepth 20000 in
theorem vL_116 : ex_V RL 116 mX9_goBack 1 := ⟨cmX9_goBack, (ex_tw 579 (by rfl) rfl), (ex_tw 580 (by rfl) rfl), (ex_tw 581 (by rfl) rfl)⟩
set_option maxRecDepth 20000 in
theorem vL_120 : ex_V RL 120 mX9_against 1 := ⟨cmX9_against, (ex_tw 583 (by rfl) rfl), (ex_tw 584 (by rfl) rfl), (ex_tw 585 (by rfl) rfl)⟩
set_option maxRecDepth 20000 in
theorem vX9_240 : ex_V RX9 240 mX4_dotsOtherThan 1 := ⟨cmX4_dotsOtherThan, (ex_tw 587 (by rfl) rfl), (ex_tw 588 (by rfl) rfl), (ex_tw 589 (by rfl) rfl)⟩
set_option maxRecDepth 20000 in
theorem vL_12 : ex_I RL 12 mX10_init 0 := ⟨cmX10_init, (ex_tw 594 (by rfl) rfl), rfl, rfl, (Or.inl (ex_tw 593 (by rfl) rfl))⟩
set_option maxRecDepth 20000 in
theorem oX10_1 : Cond.methodLink RX10 1 Lib.objectInit ∈ ex_g := (ex_tw 596 (by rfl) rfl)
set_option maxRecDepth 20000 in
theorem vL_17 : ex_V RL 17 mX10_feed 1 := ⟨cmX10_feed, (ex_tw 667 (by rfl) rfl), (ex_tw 668 (by rfl) rfl), (ex_tw 669 (by rfl) rfl)⟩
set_option maxRecDepth 20000 in
theorem vX10_58 : ex_S RX10 58 mX10_in 3 := ⟨cmX10_in, (ex_tw 673 (by rfl) rfl), (Or.inl (ex_tw 672 (by rfl) rfl))⟩
set_option maxRecDepth 20000 in
theorem vL_22 : ex_V RL 22 mX10_picture 0 := ⟨cmX10_picture, (ex_tw 677 (by rfl) rfl), (ex_tw 678 (by rfl) rfl), (ex_tw 679 (by rfl) rfl)⟩
set_option maxRecDepth 20000 in
theorem vX10_112 : ex_V RX10 112 mX10_readText 0 := ⟨cmX10_readText, (ex_tw 681 (by rfl) rfl), (ex_tw 683 (by rfl) rfl), (ex_ts 7 (by rfl) rfl)⟩
set_option maxRecDepth 20000 in
theorem vX10_101 : ex_V RX10 101 mX10_faultOf 1 := ⟨cmX10_faultOf, (ex_tw 685 (by rfl) rfl), (ex_tw 687 (by rfl) rfl), (ex_ts 8 (by rfl) rfl)⟩
set_option maxRecDepth 20000 in
theorem vX10_90 : ex_V RX10 90 mX10_faultOfBreak 0 := ⟨cmX10_faultOfBreak, (ex_tw 689 (by rfl) rfl), (ex_tw 691 (by rfl) rfl), (ex_ts 9 (by rfl) rfl)⟩
set_option maxRecDepth 20000 in
theorem vX10_86 : ex_V RX10 86 mX10_isShort 0 := ⟨cmX10_isShort, (ex_tw 693 (by rfl) rfl), (ex_tw 695 (by rfl) rfl), (ex_ts 10 (by rfl) rfl)⟩
set_option maxRecDepth 20000 in
theorem vX10_94 : ex_S RX10 94 mX10_figure 1 := ⟨cmX10_figure, (ex_tw 698 (by rfl) rfl), (Or.inl (ex_tw 697 (by rfl) rfl))⟩
set_option maxRecDepth 20000 in
theorem vX10_104 : ex_V RX10 104 mX10_goOn 1 := ⟨cmX10_goOn, (ex_tw 704 (by rfl) rfl), (ex_tw 706 (by rfl) rfl), (ex_ts 11 (by rfl) rfl)⟩
set_option maxRecDepth 20000 in
theorem vX10_115 : ex_V RX10 115 mX10_remember 0 := ⟨cmX10_remember, (ex_tw 708 (by rfl) rfl), (ex_tw 710 (by rfl) rfl), (ex_ts 12 (by rfl) rfl)⟩
set_option maxRecDepth 20000 in
theorem vX10_47 : ex_V RX10 47 mX10_copyRow 2 := ⟨cmX10_copyRow, (ex_tw 712 (by rfl) rfl), (ex_tw 714 (by rfl) rfl), (ex_ts 13 (by rfl) rfl)⟩
set_option maxRecDepth 20000 in
theorem vX10_118 : ex_V RX10 118 mX10_layPicture 0 := ⟨cmX10_layPicture, (ex_tw 716 (by rfl) rfl), (ex_tw 718 (by rfl) rfl), (ex_ts 14 (by rfl) rfl)⟩
set_option maxRecDepth 20000 in
theorem vX10_54 : ex_V RX10 54 mX10_place 2 := ⟨cmX10_place, (ex_tw 720 (by rfl) rfl), (ex_tw 722 (by rfl) rfl), (ex_ts 15 (by rfl) rfl)⟩
set_option maxRecDepth 20000 in
theorem vL_26 : ex_V RL 26 mX10_fault 0 := ⟨cmX10_fault, (ex_tw 724 (by rfl) rfl), (ex_tw 725 (by rfl) rfl), (ex_tw 726 (by rfl) rfl)⟩
set_option maxRecDepth 20000 in
theorem vL_30 : ex_V RL 30 mX10_told 1 := ⟨cmX10_told, (ex_tw 728 (by rfl) rfl), (ex_tw 729 (by rfl) rfl), (ex_tw 730 (by rfl) rfl)⟩
set_option maxRecDepth 20000 in
theorem vX10_166 : ex_V RX10 166 mX10_masked 0 := ⟨cmX10_masked, (ex_tw 732 (by rfl) rfl), (ex_tw 734 (by rfl) rfl), (ex_ts 16 (by rfl) rfl)⟩
set_option maxRecDepth 20000 in
theorem vX10_62 : ex_V RX10 62 mX10_isMasked 2 := ⟨cmX10_isMasked, (ex_tw 736 (by rfl) rfl), (ex_tw 738 (by rfl) rfl), (ex_ts 17 (by rfl) rfl)⟩
set_option maxRecDepth 20000 in
theorem vX10_169 : ex_V RX10 169 mX10_ofGreys 1 := ⟨cmX10_ofGreys, (ex_tw 740 (by rfl) rfl), (ex_tw 742 (by rfl) rfl), (ex_ts 18 (by rfl) rfl)⟩
set_option maxRecDepth 20000 in
theorem vX10_137 : ex_V RX10 137 mX10_grey 2 := ⟨cmX10_grey, (ex_tw 744 (by rfl) rfl), (ex_tw 746 (by rfl) rfl), (ex_ts 19 (by rfl) rfl)⟩
set_option maxRecDepth 20000 in
theorem vX10_172 : ex_V RX10 172 mX10_wrong 0 := ⟨cmX10_wrong, (ex_tw 748 (by rfl) rfl), (ex_tw 750 (by rfl) rfl), (ex_ts 20 (by rfl) rfl)⟩
set_option maxRecDepth 20000 in
theorem vX10_140 : ex_V RX10 140 mX10_isDot 2 := ⟨cmX10_isDot, (ex_tw 752 (by rfl) rfl), (ex_tw 754 (by rfl) rfl), (ex_ts 21 (by rfl) rfl)⟩
set_option maxRecDepth 20000 in
theorem vL_35 : ex_V RL 35 mX10_at 3 := ⟨cmX10_at, (ex_tw 756 (by rfl) rfl), (ex_tw 757 (by rfl) rfl), (ex_tw 758 (by rfl) rfl)⟩
set_option maxRecDepth 20000 in
theorem vL_40 : ex_V RL 40 mX10_tally 5 := ⟨cmX10_tally, (ex_tw 761 (by rfl) rfl), (ex_tw 762 (by rfl) rfl), (ex_tw 763 (by rfl) rfl)⟩
set_option maxRecDepth 20000 in
theorem vL_44 : ex_V RL 44 mX10_filter 5 := ⟨cmX10_filter, (ex_tw 767 (by rfl) rfl), (ex_tw 768 (by rfl) rfl), (ex_tw 769 (by rfl) rfl)⟩
set_option maxRecDepth 20000 in
theorem vL_48 : ex_V RL 48 mX10_drop 1 := ⟨cmX10_drop, (ex_tw 774 (by rfl) rfl), (ex_tw 775 (by rfl) rfl), (ex_tw 776 (by rfl) rfl)⟩
set_option maxRecDepth 20000 in
theorem vX10_186 : ex_V RX10 186 mX10_isFilter 1 := ⟨cmX10_isFilter, (ex_tw 778 (by rfl) rfl), (ex_tw 780 (by rfl) rfl), (ex_ts 22 (by rfl) rfl)⟩
set_option maxRecDepth 20000 in
theorem vL_52 : ex_V RL 52 mX10_fill 1 := ⟨cmX10_fill, (ex_tw 782 (by rfl) rfl), (ex_tw 783 (by rfl) rfl), (ex_tw 784 (by rfl) rfl)⟩
set_option maxRecDepth 20000 in
theorem vL_57 : ex_V RL 57 mX10_would 4 := ⟨cmX10_would, (ex_tw 786 (by rfl) rfl), (ex_tw 787 (by rfl) rfl), (ex_tw 788 (by rfl) rfl)⟩
set_option maxRecDepth 20000 in
theorem vX10_157 : ex_V RX10 157 mX10_lastOf 3 := ⟨cmX10_lastOf, (ex_tw 790 (by rfl) rfl), (ex_tw 792 (by rfl) rfl), (ex_ts 23 (by rfl) rfl)⟩
set_option maxRecDepth 20000 in
theorem vX10_154 : ex_V RX10 154 mX10_layWindow 3 := ⟨cmX10_layWindow, (ex_tw 794 (by rfl) rfl), (ex_tw 796 (by rfl) rfl), (ex_ts 24 (by rfl) rfl)⟩
set_option maxRecDepth 20000 in
theorem vX10_143 : ex_V RX10 143 mX10_part 2 := ⟨cmX10_part, (ex_tw 798 (by rfl) rfl), (ex_tw 800 (by rfl) rfl), (ex_ts 25 (by rfl) rfl)⟩
set_option maxRecDepth 20000 in
theorem vX10_150 : ex_V RX10 150 mX10_countAt 4 := ⟨cmX10_countAt, (ex_tw 802 (by rfl) rfl), (ex_tw 804 (by rfl) rfl), (ex_ts 26 (by rfl) rfl)⟩
set_option maxRecDepth 20000 in
theorem vX10_146 : ex_V RX10 146 mX10_countOut 3 := ⟨cmX10_countOut, (ex_tw 806 (by rfl) rfl), (ex_tw 808 (by rfl) rfl), (ex_ts 27 (by rfl) rfl)⟩
set_option maxRecDepth 20000 in
theorem vX10_130 : ex_V RX10 130 mX10_count 1 := ⟨cmX10_count, (ex_tw 810 (by rfl) rfl), (ex_tw 812 (by rfl) rfl), (ex_ts 28 (by rfl) rfl)⟩
set_option maxRecDepth 20000 in
theorem vX10_133 : ex_S RX10 133 mX10_standIn 3 := ⟨cmX10_standIn, (ex_tw 815 (by rfl) rfl), (Or.inl (ex_tw 814 (by rfl) rfl))⟩
set_option maxRecDepth 20000 in
theorem vX10_124 : ex_S RX10 124 mX10_leftOver 2 := ⟨cmX10_leftOver, (ex_tw 818 (by rfl) rfl), (Or.inl (ex_tw 817 (by rfl) rfl))⟩
set_option maxRecDepth 20000 in
theorem vX10_190 : ex_V RX10 190 mX10_below 1 := ⟨cmX10_below, (ex_tw 820 (by rfl) rfl), (ex_tw 822 (by rfl) rfl), (ex_ts 29 (by rfl) rfl)⟩
set_option maxRecDepth 20000 in
theorem vL_61 : ex_V RL 61 mX10_bins 1 := ⟨cmX10_bins, (ex_tw 824 (by rfl) rfl), (ex_tw 825 (by rfl) rfl), (ex_tw 826 (by rfl) rfl)⟩
set_option maxRecDepth 20000 in
theorem vL_66 : ex_V RL 66 mX10_spikes 2 := ⟨cmX10_spikes, (ex_tw 828 (by rfl) rfl), (ex_tw 829 (by rfl) rfl), (ex_tw 830 (by rfl) rfl)⟩
set_option maxRecDepth 20000 in
theorem vL_70 : ex_V RL 70 mX10_dot 3 := ⟨cmX10_dot, (ex_tw 832 (by rfl) rfl), (ex_tw 833 (by rfl) rfl), (ex_tw 834 (by rfl) rfl)⟩
set_option maxRecDepth 20000 in
theorem vX10_160 : ex_V RX10 160 mX10_setGrey 3 := ⟨cmX10_setGrey, (ex_tw 836 (by rfl) rfl), (ex_tw 838 (by rfl) rfl), (ex_ts 30 (by rfl) rfl)⟩
set_option maxRecDepth 20000 in
theorem vL_75 : ex_V RL 75 mX10_mask 3 := ⟨cmX10_mask, (ex_tw 840 (by rfl) rfl), (ex_tw 841 (by rfl) rfl), (ex_tw 842 (by rfl) rfl)⟩
set_option maxRecDepth 20000 in
theorem vL_79 : ex_V RL 79 mX10_turn 1 := ⟨cmX10_turn, (ex_tw 844 (by rfl) rfl), (ex_tw 845 (by rfl) rfl), (ex_tw 846 (by rfl) rfl)⟩
set_option maxRecDepth 20000 in
theorem vX10_196 : ex_V RX10 196 mX10_turnedFrom 3 := ⟨cmX10_turnedFrom, (ex_tw 850 (by rfl) rfl), (ex_tw 852 (by rfl) rfl), (ex_ts 31 (by rfl) rfl)⟩
set_option maxRecDepth 20000 in
theorem vL_83 : ex_V RL 83 mX10_filtered 1 := ⟨cmX10_filtered, (ex_tw 854 (by rfl) rfl), (ex_tw 855 (by rfl) rfl), (ex_tw 856 (by rfl) rfl)⟩
set_option maxRecDepth 20000 in
theorem vX10_199 : ex_V RX10 199 mX10_applyNow 1 := ⟨cmX10_applyNow, (ex_tw 858 (by rfl) rfl), (ex_tw 860 (by rfl) rfl), (ex_ts 32 (by rfl) rfl)⟩
set_option maxRecDepth 20000 in
theorem vL_87 : ex_V RL 87 mX10_all 0 := ⟨cmX10_all, (ex_tw 862 (by rfl) rfl), (ex_tw 863 (by rfl) rfl), (ex_tw 864 (by rfl) rfl)⟩
set_option maxRecDepth 20000 in
theorem vL_91 : ex_V RL 91 mX10_until 2 := ⟨cmX10_until, (ex_tw 866 (by rfl) rfl), (ex_tw 867 (by rfl) rfl), (ex_tw 868 (by rfl) rfl)⟩
set_option maxRecDepth 20000 in
theorem vL_95 : ex_V RL 95 mX10_noise 1 := ⟨cmX10_noise, (ex_tw 871 (by rfl) rfl), (ex_tw 872 (by rfl) rfl), (ex_tw 873 (by rfl) rfl)⟩
set_option maxRecDepth 20000 in
theorem vX10_216 : ex_V RX10 216 mX10_draw 1 := ⟨cmX10_draw, (ex_tw 876 (by rfl) rfl), (ex_tw 878 (by rfl) rfl), (ex_ts 33 (by rfl) rfl)⟩
set_option maxRecDepth 20000 in
theorem vL_99 : ex_V RL 99 mX10_undo 1 := ⟨cmX10_undo, (ex_tw 884 (by rfl) rfl), (ex_tw 885 (by rfl) rfl), (ex_tw 886 (by rfl) rfl)⟩
set_option maxRecDepth 20000 in
theorem vL_103 : ex_V RL 103 mX10_write 3 := ⟨cmX10_write, (ex_tw 889 (by rfl) rfl), (ex_tw 890 (by rfl) rfl), (ex_tw 891 (by rfl) rfl)⟩
set_option maxRecDepth 20000 in
theorem vL_107 : ex_V RL 107 mX10_tear 0 := ⟨cmX10_tear, (ex_tw 893 (by rfl) rfl), (ex_tw 894 (by rfl) rfl), (ex_tw 895 (by rfl) rfl)⟩
set_option maxRecDepth 20000 in
theorem vL_111 : ex_V RL 111 mX10_seed 1 := ⟨cmX10_seed, (ex_tw 897 (by rfl) rfl), (ex_tw 898 (by rfl) rfl), (ex_tw 899 (by rfl) rfl)⟩
set_option maxRecDepth 20000 in
theorem vL_115 : ex_V RL 115 mX10_keep 1 := ⟨cmX10_keep, (ex_tw 901 (by rfl) rfl), (ex_tw 902 (by rfl) rfl), (ex_tw 903 (by rfl) rfl)⟩
set_option maxRecDepth 20000 in
theorem vL_119 : ex_V RL 119 mX10_goBack 1 := ⟨cmX10_goBack, (ex_tw 905 (by rfl) rfl), (ex_tw 906 (by rfl) rfl), (ex_tw 907 (by rfl) rfl)⟩
set_option maxRecDepth 20000 in
theorem vX10_224 : ex_V RX10 224 mX10_isKept 1 := ⟨cmX10_isKept, (ex_tw 909 (by rfl) rfl), (ex_tw 911 (by rfl) rfl), (ex_ts 34 (by rfl) rfl)⟩
set_option maxRecDepth 20000 in
theorem vL_123 : ex_V RL 123 mX10_against 1 := ⟨cmX10_against, (ex_tw 913 (by rfl) rfl), (ex_tw 914 (by rfl) rfl), (ex_tw 915 (by rfl) rfl)⟩
theorem vX9_9 : ex_I RX9 9 mX7_init 0 := ⟨cmX7_init, (ex_tw 25 (by rfl) rfl), rfl, rfl, (Or.inr ⟨_, ex_tn 24 (by rfl)⟩)⟩
theorem vX9_18 : ex_I RX9 18 mX6_init 0 := ⟨cmX6_init, (ex_tw 43 (by rfl) rfl), rfl, rfl, (Or.inr ⟨_, ex_tn 42 (by rfl)⟩)⟩
theorem vX6_11 : ex_I RX6 11 mX4_init 0 := ⟨cmX4_init, (ex_tw 49 (by rfl) rfl), rfl, rfl, (Or.inr ⟨_, ex_tn 48 (by rfl)⟩)⟩
theorem vX6_20 : ex_I RX6 20 mX2_init 0 := ⟨cmX2_init, (ex_tw 75 (by rfl) rfl), rfl, rfl, (Or.inr ⟨_, ex_tn 74 (by rfl)⟩)⟩
theorem vX3_22 : ex_I RX3 22 mX4_init 0 := ⟨cmX4_init, (ex_tw 49 (by rfl) rfl), rfl, rfl, (Or.inr ⟨_, ex_tn 114 (by rfl)⟩)⟩
theorem vX9_40 : ex_I RX9 40 mX0_init 0 := ⟨cmX0_init, (ex_tw 129 (by rfl) rfl), rfl, rfl, (Or.inr ⟨_, ex_tn 128 (by rfl)⟩)⟩
theorem vX9_47 : ex_I RX9 47 mX8_init 0 := ⟨cmX8_init, (ex_tw 149 (by rfl) rfl), rfl, rfl, (Or.inr ⟨_, ex_tn 148 (by rfl)⟩)⟩
theorem vX9_54 : ex_I RX9 54 mX4_init 0 := ⟨cmX4_init, (ex_tw 49 (by rfl) rfl), rfl, rfl, (Or.inr ⟨_, ex_tn 164 (by rfl)⟩)⟩
theorem vX4_30 : ex_S RX4 30 mX9_within 3 := ⟨cmX9_within, (ex_tw 201 (by rfl) rfl), (Or.inr ⟨_, ex_tn 254 (by rfl)⟩)⟩
theorem vX5_55 : ex_S RX5 55 mX9_within 3 := ⟨cmX9_within, (ex_tw 201 (by rfl) rfl), (Or.inr ⟨_, ex_tn 258 (by rfl)⟩)⟩
set_option maxRecDepth 20000 in
theorem vX2_21 : ex_S RX2 21 mX9_within 3 := ⟨cmX9_within, (ex_tw 201 (by rfl) rfl), (Or.inr ⟨_, ex_tn 403 (by rfl)⟩)⟩
set_option maxRecDepth 20000 in
theorem vX8_74 : ex_S RX8 74 mX9_within 3 := ⟨cmX9_within, (ex_tw 201 (by rfl) rfl), (Or.inr ⟨_, ex_tn 427 (by rfl)⟩)⟩
set_option maxRecDepth 20000 in
theorem vX3_27 : ex_S RX3 27 mX9_within 3 := ⟨cmX9_within, (ex_tw 201 (by rfl) rfl), (Or.inr ⟨_, ex_tn 544 (by rfl)⟩)⟩
theorem kX9_70 : Cond.constant RX9 70 (-1000000002) ∈ ex_g := (ex_tw 203 (by rfl) rfl)
theorem kX7_22 : Cond.constant RX7 22 (-1000000004) ∈ ex_g := (ex_tw 208 (by rfl) rfl)
theorem kX9_141 : Cond.constant RX9 141 (-1000000001) ∈ ex_g := (ex_tw 337 (by rfl) rfl)
theorem kX9_157 : Cond.constant RX9 157 (-1000000004) ∈ ex_g := (ex_tw 361 (by rfl) rfl)
theorem kX2_29 : Cond.constant RX2 29 (-1000000004) ∈ ex_g := (ex_tw 394 (by rfl) rfl)
set_option maxRecDepth 20000 in
theorem kX2_30 : Cond.constant RX2 30 (-1000000001) ∈ ex_g := (ex_tw 408 (by rfl) rfl)
set_option maxRecDepth 20000 in
theorem kX9_210 : Cond.constant RX9 210 (-1000000003) ∈ ex_g := (ex_tw 492 (by rfl) rfl)
set_option maxRecDepth 20000 in
theorem kX6_59 : Cond.constant RX6 59 (65536) ∈ ex_g := (ex_tw 534 (by rfl) rfl)
set_option maxRecDepth 20000 in
theorem kX0_25 : Cond.constant RX0 25 (-1000000004) ∈ ex_g := (ex_tw 553 (by rfl) rfl)
set_option maxRecDepth 20000 in
theorem kX10_110 : Cond.constant RX10 110 (-1000000002) ∈ ex_g := (ex_tw 675 (by rfl) rfl)
set_option maxRecDepth 20000 in
theorem kX10_111 : Cond.constant RX10 111 (-1000000004) ∈ ex_g := (ex_tw 676 (by rfl) rfl)
set_option maxRecDepth 20000 in
theorem kX10_175 : Cond.constant RX10 175 (-1000000001) ∈ ex_g := (ex_tw 760 (by rfl) rfl)
set_option maxRecDepth 20000 in
theorem kX10_195 : Cond.constant RX10 195 (-1000000003) ∈ ex_g := (ex_tw 849 (by rfl) rfl)
set_option maxRecDepth 20000 in
theorem kX10_213 : Cond.constant RX10 213 (65536) ∈ ex_g := (ex_tw 883 (by rfl) rfl)
set_option maxRecDepth 20000 in
theorem kX6_53 : Cond.constantLong RX6 53 (1103515245) ∈ ex_g := (ex_tw 531 (by rfl) rfl)
set_option maxRecDepth 20000 in
theorem kX6_55 : Cond.constantLong RX6 55 (12345) ∈ ex_g := (ex_tw 532 (by rfl) rfl)
set_option maxRecDepth 20000 in
theorem kX6_57 : Cond.constantLong RX6 57 (2147483648) ∈ ex_g := (ex_tw 533 (by rfl) rfl)
set_option maxRecDepth 20000 in
theorem kX10_108 : Cond.constantLong RX10 108 (255) ∈ ex_g := (ex_tw 671 (by rfl) rfl)
set_option maxRecDepth 20000 in
theorem kX10_66 : Cond.constantLong RX10 66 (48) ∈ ex_g := (ex_tw 700 (by rfl) rfl)
set_option maxRecDepth 20000 in
theorem kX10_68 : Cond.constantLong RX10 68 (57) ∈ ex_g := (ex_tw 701 (by rfl) rfl)
set_option maxRecDepth 20000 in
theorem kX10_70 : Cond.constantLong RX10 70 (97) ∈ ex_g := (ex_tw 702 (by rfl) rfl)
set_option maxRecDepth 20000 in
theorem kX10_72 : Cond.constantLong RX10 72 (102) ∈ ex_g := (ex_tw 703 (by rfl) rfl)
set_option maxRecDepth 20000 in
theorem kX10_176 : Cond.constantLong RX10 176 (-1) ∈ ex_g := (ex_tw 765 (by rfl) rfl)
set_option maxRecDepth 20000 in
theorem kX10_178 : Cond.constantLong RX10 178 (256) ∈ ex_g := (ex_tw 766 (by rfl) rfl)
set_option maxRecDepth 20000 in
theorem kX10_180 : Cond.constantLong RX10 180 (4) ∈ ex_g := (ex_tw 771 (by rfl) rfl)
set_option maxRecDepth 20000 in
theorem kX10_182 : Cond.constantLong RX10 182 (100) ∈ ex_g := (ex_tw 772 (by rfl) rfl)
set_option maxRecDepth 20000 in
theorem kX10_184 : Cond.constantLong RX10 184 (9) ∈ ex_g := (ex_tw 773 (by rfl) rfl)
set_option maxRecDepth 20000 in
theorem kX10_193 : Cond.constantLong RX10 193 (3) ∈ ex_g := (ex_tw 848 (by rfl) rfl)
set_option maxRecDepth 20000 in
theorem kX10_202 : Cond.constantLong RX10 202 (20) ∈ ex_g := (ex_tw 870 (by rfl) rfl)
set_option maxRecDepth 20000 in
theorem kX10_214 : Cond.constantLong RX10 214 (12) ∈ ex_g := (ex_tw 875 (by rfl) rfl)
set_option maxRecDepth 20000 in
theorem kX10_207 : Cond.constantLong RX10 207 (1103515245) ∈ ex_g := (ex_tw 880 (by rfl) rfl)
set_option maxRecDepth 20000 in
theorem kX10_209 : Cond.constantLong RX10 209 (12345) ∈ ex_g := (ex_tw 881 (by rfl) rfl)
set_option maxRecDepth 20000 in
theorem kX10_211 : Cond.constantLong RX10 211 (2147483648) ∈ ex_g := (ex_tw 882 (by rfl) rfl)
set_option maxRecDepth 20000 in
theorem kX10_219 : Cond.constantLong RX10 219 (16) ∈ ex_g := (ex_tw 888 (by rfl) rfl)
theorem oi_inst : Cond.instanceMethod Lib.objectInit ∈ ex_g := (ex_tw 20 (by rfl) rfl)
theorem oi_code : Cond.code Lib.objectInit ⟨#[0xb1]⟩ 1 none ∈ ex_g := (ex_tw 21 (by rfl) rfl)
theorem ac_int : Cond.arrayClass .int ∈ ex_g := (ex_tw 39 (by rfl) rfl)
theorem ac_boolean : Cond.arrayClass .boolean ∈ ex_g := (ex_tw 71 (by rfl) rfl)
theorem ao_X1 : Cond.arrayOver (.object RX1) ∈ lw_tbl := ex_tn 79 (by rfl)
theorem ao_X6 : Cond.arrayOver (.object RX6) ∈ lw_tbl := ex_tn 105 (by rfl)
theorem ao_X4 : Cond.arrayOver (.object RX4) ∈ lw_tbl := ex_tn 113 (by rfl)
end
section
theorem dX0_init_0 : decode cX0_init 0 = .ok (.aload_n 0, 1) := by decide +kernel
theorem dX0_init_1 : decode cX0_init 1 = .ok (.invokespecial 3, 3) := by decide +kernel
theorem dX0_init_4 : decode cX0_init 4 = .ok (.aload_n 0, 1) := by decide +kernel
theorem dX0_init_5 : decode cX0_init 5 = .ok (.iconst 0, 1) := by decide +kernel
theorem dX0_init_6 : decode cX0_init 6 = .ok (.putfield 9, 3) := by decide +kernel
theorem dX0_init_9 : decode cX0_init 9 = .ok (.aload_n 0, 1) := by decide +kernel
theorem dX0_init_10 : decode cX0_init 10 = .ok (.bipush 20, 2) := by decide +kernel
theorem dX0_init_12 : decode cX0_init 12 = .ok (.newarray .int, 2) := by decide +kernel
theorem dX0_init_14 : decode cX0_init 14 = .ok (.putfield 15, 3) := by decide +kernel
theorem dX0_init_17 : decode cX0_init 17 = .ok (.aload_n 0, 1) := by decide +kernel
theorem dX0_init_18 : decode cX0_init 18 = .ok (.bipush 20, 2) := by decide +kernel
theorem dX0_init_20 : decode cX0_init 20 = .ok (.newarray .int, 2) := by decide +kernel
theorem dX0_init_22 : decode cX0_init 22 = .ok (.putfield 19, 3) := by decide +kernel
theorem dX0_init_25 : decode cX0_init 25 = .ok (.aload_n 0, 1) := by decide +kernel
theorem dX0_init_26 : decode cX0_init 26 = .ok (.bipush 20, 2) := by decide +kernel
theorem dX0_init_28 : decode cX0_init 28 = .ok (.newarray .int, 2) := by decide +kernel
theorem dX0_init_30 : decode cX0_init 30 = .ok (.putfield 22, 3) := by decide +kernel
theorem dX0_init_33 : decode cX0_init 33 = .ok (.return_, 1) := by decide +kernel
theorem dX0_add_0 : decode cX0_add 0 = .ok (.aload_n 0, 1) := by decide +kernel
theorem dX0_add_1 : decode cX0_add 1 = .ok (.getfield 9, 3) := by decide +kernel
theorem dX0_add_4 : decode cX0_add 4 = .ok (.bipush 20, 2) := by decide +kernel
theorem dX0_add_6 : decode cX0_add 6 = .ok (.if_icmp .lt 6, 3) := by decide +kernel
theorem dX0_add_9 : decode cX0_add 9 = .ok (.ldc 25, 2) := by decide +kernel
theorem dX0_add_11 : decode cX0_add 11 = .ok (.ireturn, 1) := by decide +kernel
theorem dX0_add_12 : decode cX0_add 12 = .ok (.aload_n 0, 1) := by decide +kernel
theorem dX0_add_13 : decode cX0_add 13 = .ok (.getfield 15, 3) := by decide +kernel
theorem dX0_add_16 : decode cX0_add 16 = .ok (.aload_n 0, 1) := by decide +kernel
theorem dX0_add_17 : decode cX0_add 17 = .ok (.getfield 9, 3) := by decide +kernel
theorem dX0_add_20 : decode cX0_add 20 = .ok (.iload_n 1, 1) := by decide +kernel
theorem dX0_add_21 : decode cX0_add 21 = .ok (.iastore, 1) := by decide +kernel
theorem dX0_add_22 : decode cX0_add 22 = .ok (.aload_n 0, 1) := by decide +kernel
theorem dX0_add_23 : decode cX0_add 23 = .ok (.getfield 19, 3) := by decide +kernel
theorem dX0_add_26 : decode cX0_add 26 = .ok (.aload_n 0, 1) := by decide +kernel
theorem dX0_add_27 : decode cX0_add 27 = .ok (.getfield 9, 3) := by decide +kernel
theorem dX0_add_30 : decode cX0_add 30 = .ok (.iload_n 2, 1) := by decide +kernel
theorem dX0_add_31 : decode cX0_add 31 = .ok (.iastore, 1) := by decide +kernel
theorem dX0_add_32 : decode cX0_add 32 = .ok (.aload_n 0, 1) := by decide +kernel
theorem dX0_add_33 : decode cX0_add 33 = .ok (.getfield 22, 3) := by decide +kernel
theorem dX0_add_36 : decode cX0_add 36 = .ok (.aload_n 0, 1) := by decide +kernel
theorem dX0_add_37 : decode cX0_add 37 = .ok (.getfield 9, 3) := by decide +kernel
theorem dX0_add_40 : decode cX0_add 40 = .ok (.iload_n 3, 1) := by decide +kernel
theorem dX0_add_41 : decode cX0_add 41 = .ok (.iastore, 1) := by decide +kernel
theorem dX0_add_42 : decode cX0_add 42 = .ok (.aload_n 0, 1) := by decide +kernel
theorem dX0_add_43 : decode cX0_add 43 = .ok (.dup, 1) := by decide +kernel
theorem dX0_add_44 : decode cX0_add 44 = .ok (.getfield 9, 3) := by decide +kernel
theorem dX0_add_47 : decode cX0_add 47 = .ok (.iconst 1, 1) := by decide +kernel
theorem dX0_add_48 : decode cX0_add 48 = .ok (.iadd, 1) := by decide +kernel
theorem dX0_add_49 : decode cX0_add 49 = .ok (.putfield 9, 3) := by decide +kernel
theorem dX0_add_52 : decode cX0_add 52 = .ok (.aload_n 0, 1) := by decide +kernel
theorem dX0_add_53 : decode cX0_add 53 = .ok (.getfield 9, 3) := by decide +kernel
theorem dX0_add_56 : decode cX0_add 56 = .ok (.ireturn, 1) := by decide +kernel
theorem dX0_firstWrong_0 : decode cX0_firstWrong 0 = .ok (.iconst 0, 1) := by decide +kernel
theorem dX0_firstWrong_1 : decode cX0_firstWrong 1 = .ok (.istore_n 2, 1) := by decide +kernel
theorem dX0_firstWrong_2 : decode cX0_firstWrong 2 = .ok (.iload_n 2, 1) := by decide +kernel
theorem dX0_firstWrong_3 : decode cX0_firstWrong 3 = .ok (.aload_n 0, 1) := by decide +kernel
theorem dX0_firstWrong_4 : decode cX0_firstWrong 4 = .ok (.getfield 9, 3) := by decide +kernel
theorem dX0_firstWrong_7 : decode cX0_firstWrong 7 = .ok (.if_icmp .ge 55, 3) := by decide +kernel
theorem dX0_firstWrong_10 : decode cX0_firstWrong 10 = .ok (.aload_n 1, 1) := by decide +kernel
theorem dX0_firstWrong_11 : decode cX0_firstWrong 11 = .ok (.aload_n 0, 1) := by decide +kernel
theorem dX0_firstWrong_12 : decode cX0_firstWrong 12 = .ok (.getfield 15, 3) := by decide +kernel
theorem dX0_firstWrong_15 : decode cX0_firstWrong 15 = .ok (.iload_n 2, 1) := by decide +kernel
theorem dX0_firstWrong_16 : decode cX0_firstWrong 16 = .ok (.iaload, 1) := by decide +kernel
theorem dX0_firstWrong_17 : decode cX0_firstWrong 17 = .ok (.aload_n 0, 1) := by decide +kernel
theorem dX0_firstWrong_18 : decode cX0_firstWrong 18 = .ok (.getfield 19, 3) := by decide +kernel
theorem dX0_firstWrong_21 : decode cX0_firstWrong 21 = .ok (.iload_n 2, 1) := by decide +kernel
theorem dX0_firstWrong_22 : decode cX0_firstWrong 22 = .ok (.iaload, 1) := by decide +kernel
theorem dX0_firstWrong_23 : decode cX0_firstWrong 23 = .ok (.invokevirtual 26, 3) := by decide +kernel
theorem dX0_firstWrong_26 : decode cX0_firstWrong 26 = .ok (.ifCond .eq 28, 3) := by decide +kernel
theorem dX0_firstWrong_29 : decode cX0_firstWrong 29 = .ok (.aload_n 1, 1) := by decide +kernel
theorem dX0_firstWrong_30 : decode cX0_firstWrong 30 = .ok (.aload_n 0, 1) := by decide +kernel
theorem dX0_firstWrong_31 : decode cX0_firstWrong 31 = .ok (.getfield 15, 3) := by decide +kernel
theorem dX0_firstWrong_34 : decode cX0_firstWrong 34 = .ok (.iload_n 2, 1) := by decide +kernel
theorem dX0_firstWrong_35 : decode cX0_firstWrong 35 = .ok (.iaload, 1) := by decide +kernel
theorem dX0_firstWrong_36 : decode cX0_firstWrong 36 = .ok (.aload_n 0, 1) := by decide +kernel
theorem dX0_firstWrong_37 : decode cX0_firstWrong 37 = .ok (.getfield 19, 3) := by decide +kernel
theorem dX0_firstWrong_40 : decode cX0_firstWrong 40 = .ok (.iload_n 2, 1) := by decide +kernel
theorem dX0_firstWrong_41 : decode cX0_firstWrong 41 = .ok (.iaload, 1) := by decide +kernel
theorem dX0_firstWrong_42 : decode cX0_firstWrong 42 = .ok (.invokevirtual 32, 3) := by decide +kernel
theorem dX0_firstWrong_45 : decode cX0_firstWrong 45 = .ok (.aload_n 0, 1) := by decide +kernel
theorem dX0_firstWrong_46 : decode cX0_firstWrong 46 = .ok (.getfield 22, 3) := by decide +kernel
theorem dX0_firstWrong_49 : decode cX0_firstWrong 49 = .ok (.iload_n 2, 1) := by decide +kernel
theorem dX0_firstWrong_50 : decode cX0_firstWrong 50 = .ok (.iaload, 1) := by decide +kernel
theorem dX0_firstWrong_51 : decode cX0_firstWrong 51 = .ok (.if_icmp .eq 5, 3) := by decide +kernel
theorem dX0_firstWrong_54 : decode cX0_firstWrong 54 = .ok (.iload_n 2, 1) := by decide +kernel
theorem dX0_firstWrong_55 : decode cX0_firstWrong 55 = .ok (.ireturn, 1) := by decide +kernel
theorem dX0_firstWrong_56 : decode cX0_firstWrong 56 = .ok (.iinc 2 1, 3) := by decide +kernel
theorem dX0_firstWrong_59 : decode cX0_firstWrong 59 = .ok (.goto (-57), 3) := by decide +kernel
theorem dX0_firstWrong_62 : decode cX0_firstWrong 62 = .ok (.iconst (-1), 1) := by decide +kernel
theorem dX0_firstWrong_63 : decode cX0_firstWrong 63 = .ok (.ireturn, 1) := by decide +kernel
theorem dX1_init_0 : decode cX1_init 0 = .ok (.aload_n 0, 1) := by decide +kernel
theorem dX1_init_1 : decode cX1_init 1 = .ok (.invokespecial 1, 3) := by decide +kernel
theorem dX1_init_4 : decode cX1_init 4 = .ok (.aload_n 0, 1) := by decide +kernel
theorem dX1_init_5 : decode cX1_init 5 = .ok (.iload_n 1, 1) := by decide +kernel
theorem dX1_init_6 : decode cX1_init 6 = .ok (.putfield 7, 3) := by decide +kernel
theorem dX1_init_9 : decode cX1_init 9 = .ok (.aload_n 0, 1) := by decide +kernel
theorem dX1_init_10 : decode cX1_init 10 = .ok (.iload_n 2, 1) := by decide +kernel
theorem dX1_init_11 : decode cX1_init 11 = .ok (.putfield 13, 3) := by decide +kernel
theorem dX1_init_14 : decode cX1_init 14 = .ok (.aload_n 0, 1) := by decide +kernel
theorem dX1_init_15 : decode cX1_init 15 = .ok (.iload_n 3, 1) := by decide +kernel
theorem dX1_init_16 : decode cX1_init 16 = .ok (.putfield 16, 3) := by decide +kernel
theorem dX1_init_19 : decode cX1_init 19 = .ok (.aload_n 0, 1) := by decide +kernel
theorem dX1_init_20 : decode cX1_init 20 = .ok (.iload 4, 2) := by decide +kernel
theorem dX1_init_22 : decode cX1_init 22 = .ok (.putfield 19, 3) := by decide +kernel
theorem dX1_init_25 : decode cX1_init 25 = .ok (.aload_n 0, 1) := by decide +kernel
theorem dX1_init_26 : decode cX1_init 26 = .ok (.iload 5, 2) := by decide +kernel
theorem dX1_init_28 : decode cX1_init 28 = .ok (.putfield 22, 3) := by decide +kernel
theorem dX1_init_31 : decode cX1_init 31 = .ok (.return_, 1) := by decide +kernel
theorem dX2_init_0 : decode cX2_init 0 = .ok (.aload_n 0, 1) := by decide +kernel
theorem dX2_init_1 : decode cX2_init 1 = .ok (.invokespecial 3, 3) := by decide +kernel
theorem dX2_init_4 : decode cX2_init 4 = .ok (.aload_n 0, 1) := by decide +kernel
theorem dX2_init_5 : decode cX2_init 5 = .ok (.iconst 0, 1) := by decide +kernel
theorem dX2_init_6 : decode cX2_init 6 = .ok (.putfield 9, 3) := by decide +kernel
theorem dX2_init_9 : decode cX2_init 9 = .ok (.aload_n 0, 1) := by decide +kernel
theorem dX2_init_10 : decode cX2_init 10 = .ok (.bipush 6, 2) := by decide +kernel
theorem dX2_init_12 : decode cX2_init 12 = .ok (.anewarray 15, 3) := by decide +kernel
theorem dX2_init_15 : decode cX2_init 15 = .ok (.putfield 17, 3) := by decide +kernel
theorem dX2_init_18 : decode cX2_init 18 = .ok (.return_, 1) := by decide +kernel
theorem dX2_isFull_0 : decode cX2_isFull 0 = .ok (.aload_n 0, 1) := by decide +kernel
theorem dX2_isFull_1 : decode cX2_isFull 1 = .ok (.getfield 9, 3) := by decide +kernel
theorem dX2_isFull_4 : decode cX2_isFull 4 = .ok (.bipush 6, 2) := by decide +kernel
theorem dX2_isFull_6 : decode cX2_isFull 6 = .ok (.if_icmp .lt 7, 3) := by decide +kernel
theorem dX2_isFull_9 : decode cX2_isFull 9 = .ok (.iconst 1, 1) := by decide +kernel
theorem dX2_isFull_10 : decode cX2_isFull 10 = .ok (.goto 4, 3) := by decide +kernel
theorem dX2_isFull_13 : decode cX2_isFull 13 = .ok (.iconst 0, 1) := by decide +kernel
theorem dX2_isFull_14 : decode cX2_isFull 14 = .ok (.ireturn, 1) := by decide +kernel
theorem dX2_numbered_0 : decode cX2_numbered 0 = .ok (.iload_n 1, 1) := by decide +kernel
theorem dX2_numbered_1 : decode cX2_numbered 1 = .ok (.iconst 0, 1) := by decide +kernel
theorem dX2_numbered_2 : decode cX2_numbered 2 = .ok (.aload_n 0, 1) := by decide +kernel
theorem dX2_numbered_3 : decode cX2_numbered 3 = .ok (.getfield 9, 3) := by decide +kernel
theorem dX2_numbered_6 : decode cX2_numbered 6 = .ok (.iconst 1, 1) := by decide +kernel
theorem dX2_numbered_7 : decode cX2_numbered 7 = .ok (.isub, 1) := by decide +kernel
theorem dX2_numbered_8 : decode cX2_numbered 8 = .ok (.invokestatic 21, 3) := by decide +kernel
theorem dX2_numbered_11 : decode cX2_numbered 11 = .ok (.ifCond .eq 12, 3) := by decide +kernel
theorem dX2_numbered_14 : decode cX2_numbered 14 = .ok (.aload_n 0, 1) := by decide +kernel
theorem dX2_numbered_15 : decode cX2_numbered 15 = .ok (.getfield 17, 3) := by decide +kernel
theorem dX2_numbered_18 : decode cX2_numbered 18 = .ok (.iload_n 1, 1) := by decide +kernel
theorem dX2_numbered_19 : decode cX2_numbered 19 = .ok (.aaload, 1) := by decide +kernel
theorem dX2_numbered_20 : decode cX2_numbered 20 = .ok (.goto 4, 3) := by decide +kernel
theorem dX2_numbered_23 : decode cX2_numbered 23 = .ok (.aconst_null, 1) := by decide +kernel
theorem dX2_numbered_24 : decode cX2_numbered 24 = .ok (.areturn, 1) := by decide +kernel
theorem dX2_add_0 : decode cX2_add 0 = .ok (.aload_n 0, 1) := by decide +kernel
theorem dX2_add_1 : decode cX2_add 1 = .ok (.invokevirtual 25, 3) := by decide +kernel
theorem dX2_add_4 : decode cX2_add 4 = .ok (.ifCond .eq 6, 3) := by decide +kernel
theorem dX2_add_7 : decode cX2_add 7 = .ok (.ldc 29, 2) := by decide +kernel
theorem dX2_add_9 : decode cX2_add 9 = .ok (.ireturn, 1) := by decide +kernel
theorem dX2_add_10 : decode cX2_add 10 = .ok (.aload_n 0, 1) := by decide +kernel
theorem dX2_add_11 : decode cX2_add 11 = .ok (.getfield 17, 3) := by decide +kernel
theorem dX2_add_14 : decode cX2_add 14 = .ok (.aload_n 0, 1) := by decide +kernel
theorem dX2_add_15 : decode cX2_add 15 = .ok (.getfield 9, 3) := by decide +kernel
theorem dX2_add_18 : decode cX2_add 18 = .ok (.aload_n 1, 1) := by decide +kernel
theorem dX2_add_19 : decode cX2_add 19 = .ok (.aastore, 1) := by decide +kernel
theorem dX2_add_20 : decode cX2_add 20 = .ok (.aload_n 0, 1) := by decide +kernel
theorem dX2_add_21 : decode cX2_add 21 = .ok (.dup, 1) := by decide +kernel
theorem dX2_add_22 : decode cX2_add 22 = .ok (.getfield 9, 3) := by decide +kernel
theorem dX2_add_25 : decode cX2_add 25 = .ok (.iconst 1, 1) := by decide +kernel
theorem dX2_add_26 : decode cX2_add 26 = .ok (.iadd, 1) := by decide +kernel
theorem dX2_add_27 : decode cX2_add 27 = .ok (.putfield 9, 3) := by decide +kernel
theorem dX2_add_30 : decode cX2_add 30 = .ok (.aload_n 0, 1) := by decide +kernel
theorem dX2_add_31 : decode cX2_add 31 = .ok (.getfield 9, 3) := by decide +kernel
theorem dX2_add_34 : decode cX2_add 34 = .ok (.iconst 1, 1) := by decide +kernel
theorem dX2_add_35 : decode cX2_add 35 = .ok (.isub, 1) := by decide +kernel
theorem dX2_add_36 : decode cX2_add 36 = .ok (.ireturn, 1) := by decide +kernel
theorem dX2_remove_0 : decode cX2_remove 0 = .ok (.iload_n 1, 1) := by decide +kernel
theorem dX2_remove_1 : decode cX2_remove 1 = .ok (.iconst 0, 1) := by decide +kernel
theorem dX2_remove_2 : decode cX2_remove 2 = .ok (.aload_n 0, 1) := by decide +kernel
theorem dX2_remove_3 : decode cX2_remove 3 = .ok (.getfield 9, 3) := by decide +kernel
theorem dX2_remove_6 : decode cX2_remove 6 = .ok (.iconst 1, 1) := by decide +kernel
theorem dX2_remove_7 : decode cX2_remove 7 = .ok (.isub, 1) := by decide +kernel
theorem dX2_remove_8 : decode cX2_remove 8 = .ok (.invokestatic 21, 3) := by decide +kernel
theorem dX2_remove_11 : decode cX2_remove 11 = .ok (.ifCond .ne 6, 3) := by decide +kernel
theorem dX2_remove_14 : decode cX2_remove 14 = .ok (.ldc 30, 2) := by decide +kernel
theorem dX2_remove_16 : decode cX2_remove 16 = .ok (.ireturn, 1) := by decide +kernel
theorem dX2_remove_17 : decode cX2_remove 17 = .ok (.aload_n 0, 1) := by decide +kernel
theorem dX2_remove_18 : decode cX2_remove 18 = .ok (.dup, 1) := by decide +kernel
theorem dX2_remove_19 : decode cX2_remove 19 = .ok (.getfield 9, 3) := by decide +kernel
theorem dX2_remove_22 : decode cX2_remove 22 = .ok (.iconst 1, 1) := by decide +kernel
theorem dX2_remove_23 : decode cX2_remove 23 = .ok (.isub, 1) := by decide +kernel
theorem dX2_remove_24 : decode cX2_remove 24 = .ok (.putfield 9, 3) := by decide +kernel
theorem dX2_remove_27 : decode cX2_remove 27 = .ok (.iload_n 1, 1) := by decide +kernel
theorem dX2_remove_28 : decode cX2_remove 28 = .ok (.istore_n 2, 1) := by decide +kernel
theorem dX2_remove_29 : decode cX2_remove 29 = .ok (.iload_n 2, 1) := by decide +kernel
theorem dX2_remove_30 : decode cX2_remove 30 = .ok (.aload_n 0, 1) := by decide +kernel
theorem dX2_remove_31 : decode cX2_remove 31 = .ok (.getfield 9, 3) := by decide +kernel
theorem dX2_remove_34 : decode cX2_remove 34 = .ok (.if_icmp .ge 23, 3) := by decide +kernel
theorem dX2_remove_37 : decode cX2_remove 37 = .ok (.aload_n 0, 1) := by decide +kernel
theorem dX2_remove_38 : decode cX2_remove 38 = .ok (.getfield 17, 3) := by decide +kernel
theorem dX2_remove_41 : decode cX2_remove 41 = .ok (.iload_n 2, 1) := by decide +kernel
theorem dX2_remove_42 : decode cX2_remove 42 = .ok (.aload_n 0, 1) := by decide +kernel
theorem dX2_remove_43 : decode cX2_remove 43 = .ok (.getfield 17, 3) := by decide +kernel
theorem dX2_remove_46 : decode cX2_remove 46 = .ok (.iload_n 2, 1) := by decide +kernel
theorem dX2_remove_47 : decode cX2_remove 47 = .ok (.iconst 1, 1) := by decide +kernel
theorem dX2_remove_48 : decode cX2_remove 48 = .ok (.iadd, 1) := by decide +kernel
theorem dX2_remove_49 : decode cX2_remove 49 = .ok (.aaload, 1) := by decide +kernel
theorem dX2_remove_50 : decode cX2_remove 50 = .ok (.aastore, 1) := by decide +kernel
theorem dX2_remove_51 : decode cX2_remove 51 = .ok (.iinc 2 1, 3) := by decide +kernel
theorem dX2_remove_54 : decode cX2_remove 54 = .ok (.goto (-25), 3) := by decide +kernel
theorem dX2_remove_57 : decode cX2_remove 57 = .ok (.aload_n 0, 1) := by decide +kernel
theorem dX2_remove_58 : decode cX2_remove 58 = .ok (.getfield 9, 3) := by decide +kernel
theorem dX2_remove_61 : decode cX2_remove 61 = .ok (.ireturn, 1) := by decide +kernel
theorem dX2_become_0 : decode cX2_become 0 = .ok (.aload_n 0, 1) := by decide +kernel
theorem dX2_become_1 : decode cX2_become 1 = .ok (.aload_n 1, 1) := by decide +kernel
theorem dX2_become_2 : decode cX2_become 2 = .ok (.getfield 9, 3) := by decide +kernel
theorem dX2_become_5 : decode cX2_become 5 = .ok (.putfield 9, 3) := by decide +kernel
theorem dX2_become_8 : decode cX2_become 8 = .ok (.iconst 0, 1) := by decide +kernel
theorem dX2_become_9 : decode cX2_become 9 = .ok (.istore_n 2, 1) := by decide +kernel
theorem dX2_become_10 : decode cX2_become 10 = .ok (.iload_n 2, 1) := by decide +kernel
theorem dX2_become_11 : decode cX2_become 11 = .ok (.aload_n 0, 1) := by decide +kernel
theorem dX2_become_12 : decode cX2_become 12 = .ok (.getfield 9, 3) := by decide +kernel
theorem dX2_become_15 : decode cX2_become 15 = .ok (.if_icmp .ge 21, 3) := by decide +kernel
theorem dX2_become_18 : decode cX2_become 18 = .ok (.aload_n 0, 1) := by decide +kernel
theorem dX2_become_19 : decode cX2_become 19 = .ok (.getfield 17, 3) := by decide +kernel
theorem dX2_become_22 : decode cX2_become 22 = .ok (.iload_n 2, 1) := by decide +kernel
theorem dX2_become_23 : decode cX2_become 23 = .ok (.aload_n 1, 1) := by decide +kernel
theorem dX2_become_24 : decode cX2_become 24 = .ok (.getfield 17, 3) := by decide +kernel
theorem dX2_become_27 : decode cX2_become 27 = .ok (.iload_n 2, 1) := by decide +kernel
theorem dX2_become_28 : decode cX2_become 28 = .ok (.aaload, 1) := by decide +kernel
theorem dX2_become_29 : decode cX2_become 29 = .ok (.aastore, 1) := by decide +kernel
theorem dX2_become_30 : decode cX2_become 30 = .ok (.iinc 2 1, 3) := by decide +kernel
theorem dX2_become_33 : decode cX2_become 33 = .ok (.goto (-23), 3) := by decide +kernel
theorem dX2_become_36 : decode cX2_become 36 = .ok (.return_, 1) := by decide +kernel
theorem dX3_init_0 : decode cX3_init 0 = .ok (.aload_n 0, 1) := by decide +kernel
theorem dX3_init_1 : decode cX3_init 1 = .ok (.invokespecial 1, 3) := by decide +kernel
theorem dX3_init_4 : decode cX3_init 4 = .ok (.aload_n 0, 1) := by decide +kernel
theorem dX3_init_5 : decode cX3_init 5 = .ok (.iconst 0, 1) := by decide +kernel
theorem dX3_init_6 : decode cX3_init 6 = .ok (.putfield 7, 3) := by decide +kernel
theorem dX3_init_9 : decode cX3_init 9 = .ok (.aload_n 0, 1) := by decide +kernel
theorem dX3_init_10 : decode cX3_init 10 = .ok (.iconst 0, 1) := by decide +kernel
theorem dX3_init_11 : decode cX3_init 11 = .ok (.putfield 13, 3) := by decide +kernel
theorem dX3_init_14 : decode cX3_init 14 = .ok (.aload_n 0, 1) := by decide +kernel
theorem dX3_init_15 : decode cX3_init 15 = .ok (.bipush 16, 2) := by decide +kernel
theorem dX3_init_17 : decode cX3_init 17 = .ok (.anewarray 16, 3) := by decide +kernel
theorem dX3_init_20 : decode cX3_init 20 = .ok (.putfield 18, 3) := by decide +kernel
theorem dX3_init_23 : decode cX3_init 23 = .ok (.iconst 0, 1) := by decide +kernel
theorem dX3_init_24 : decode cX3_init 24 = .ok (.istore_n 1, 1) := by decide +kernel
theorem dX3_init_25 : decode cX3_init 25 = .ok (.iload_n 1, 1) := by decide +kernel
theorem dX3_init_26 : decode cX3_init 26 = .ok (.bipush 16, 2) := by decide +kernel
theorem dX3_init_28 : decode cX3_init 28 = .ok (.if_icmp .ge 22, 3) := by decide +kernel
theorem dX3_init_31 : decode cX3_init 31 = .ok (.aload_n 0, 1) := by decide +kernel
theorem dX3_init_32 : decode cX3_init 32 = .ok (.getfield 18, 3) := by decide +kernel
theorem dX3_init_35 : decode cX3_init 35 = .ok (.iload_n 1, 1) := by decide +kernel
theorem dX3_init_36 : decode cX3_init 36 = .ok (.new 16, 3) := by decide +kernel
theorem dX3_init_39 : decode cX3_init 39 = .ok (.dup, 1) := by decide +kernel
theorem dX3_init_40 : decode cX3_init 40 = .ok (.invokespecial 22, 3) := by decide +kernel
theorem dX3_init_43 : decode cX3_init 43 = .ok (.aastore, 1) := by decide +kernel
theorem dX3_init_44 : decode cX3_init 44 = .ok (.iinc 1 1, 3) := by decide +kernel
theorem dX3_init_47 : decode cX3_init 47 = .ok (.goto (-22), 3) := by decide +kernel
theorem dX3_init_50 : decode cX3_init 50 = .ok (.return_, 1) := by decide +kernel
theorem dX3_remember_0 : decode cX3_remember 0 = .ok (.aload_n 0, 1) := by decide +kernel
theorem dX3_remember_1 : decode cX3_remember 1 = .ok (.getfield 18, 3) := by decide +kernel
theorem dX3_remember_4 : decode cX3_remember 4 = .ok (.aload_n 0, 1) := by decide +kernel
theorem dX3_remember_5 : decode cX3_remember 5 = .ok (.getfield 13, 3) := by decide +kernel
theorem dX3_remember_8 : decode cX3_remember 8 = .ok (.aload_n 0, 1) := by decide +kernel
theorem dX3_remember_9 : decode cX3_remember 9 = .ok (.getfield 7, 3) := by decide +kernel
theorem dX3_remember_12 : decode cX3_remember 12 = .ok (.iadd, 1) := by decide +kernel
theorem dX3_remember_13 : decode cX3_remember 13 = .ok (.bipush 16, 2) := by decide +kernel
theorem dX3_remember_15 : decode cX3_remember 15 = .ok (.irem, 1) := by decide +kernel
theorem dX3_remember_16 : decode cX3_remember 16 = .ok (.aaload, 1) := by decide +kernel
theorem dX3_remember_17 : decode cX3_remember 17 = .ok (.aload_n 1, 1) := by decide +kernel
theorem dX3_remember_18 : decode cX3_remember 18 = .ok (.invokevirtual 23, 3) := by decide +kernel
theorem dX3_remember_21 : decode cX3_remember 21 = .ok (.aload_n 0, 1) := by decide +kernel
theorem dX3_remember_22 : decode cX3_remember 22 = .ok (.getfield 7, 3) := by decide +kernel
theorem dX3_remember_25 : decode cX3_remember 25 = .ok (.bipush 16, 2) := by decide +kernel
theorem dX3_remember_27 : decode cX3_remember 27 = .ok (.if_icmp .ge 16, 3) := by decide +kernel
theorem dX3_remember_30 : decode cX3_remember 30 = .ok (.aload_n 0, 1) := by decide +kernel
theorem dX3_remember_31 : decode cX3_remember 31 = .ok (.dup, 1) := by decide +kernel
theorem dX3_remember_32 : decode cX3_remember 32 = .ok (.getfield 7, 3) := by decide +kernel
theorem dX3_remember_35 : decode cX3_remember 35 = .ok (.iconst 1, 1) := by decide +kernel
theorem dX3_remember_36 : decode cX3_remember 36 = .ok (.iadd, 1) := by decide +kernel
theorem dX3_remember_37 : decode cX3_remember 37 = .ok (.putfield 7, 3) := by decide +kernel
theorem dX3_remember_40 : decode cX3_remember 40 = .ok (.goto 16, 3) := by decide +kernel
theorem dX3_remember_43 : decode cX3_remember 43 = .ok (.aload_n 0, 1) := by decide +kernel
theorem dX3_remember_44 : decode cX3_remember 44 = .ok (.aload_n 0, 1) := by decide +kernel
theorem dX3_remember_45 : decode cX3_remember 45 = .ok (.getfield 13, 3) := by decide +kernel
theorem dX3_remember_48 : decode cX3_remember 48 = .ok (.iconst 1, 1) := by decide +kernel
theorem dX3_remember_49 : decode cX3_remember 49 = .ok (.iadd, 1) := by decide +kernel
theorem dX3_remember_50 : decode cX3_remember 50 = .ok (.bipush 16, 2) := by decide +kernel
theorem dX3_remember_52 : decode cX3_remember 52 = .ok (.irem, 1) := by decide +kernel
theorem dX3_remember_53 : decode cX3_remember 53 = .ok (.putfield 13, 3) := by decide +kernel
theorem dX3_remember_56 : decode cX3_remember 56 = .ok (.return_, 1) := by decide +kernel
theorem dX3_takeBack_0 : decode cX3_takeBack 0 = .ok (.iload_n 1, 1) := by decide +kernel
theorem dX3_takeBack_1 : decode cX3_takeBack 1 = .ok (.iconst 1, 1) := by decide +kernel
theorem dX3_takeBack_2 : decode cX3_takeBack 2 = .ok (.aload_n 0, 1) := by decide +kernel
theorem dX3_takeBack_3 : decode cX3_takeBack 3 = .ok (.getfield 7, 3) := by decide +kernel
theorem dX3_takeBack_6 : decode cX3_takeBack 6 = .ok (.invokestatic 27, 3) := by decide +kernel
theorem dX3_takeBack_9 : decode cX3_takeBack 9 = .ok (.ifCond .eq 34, 3) := by decide +kernel
theorem dX3_takeBack_12 : decode cX3_takeBack 12 = .ok (.aload_n 0, 1) := by decide +kernel
theorem dX3_takeBack_13 : decode cX3_takeBack 13 = .ok (.dup, 1) := by decide +kernel
theorem dX3_takeBack_14 : decode cX3_takeBack 14 = .ok (.getfield 7, 3) := by decide +kernel
theorem dX3_takeBack_17 : decode cX3_takeBack 17 = .ok (.iload_n 1, 1) := by decide +kernel
theorem dX3_takeBack_18 : decode cX3_takeBack 18 = .ok (.isub, 1) := by decide +kernel
theorem dX3_takeBack_19 : decode cX3_takeBack 19 = .ok (.putfield 7, 3) := by decide +kernel
theorem dX3_takeBack_22 : decode cX3_takeBack 22 = .ok (.aload_n 2, 1) := by decide +kernel
theorem dX3_takeBack_23 : decode cX3_takeBack 23 = .ok (.aload_n 0, 1) := by decide +kernel
theorem dX3_takeBack_24 : decode cX3_takeBack 24 = .ok (.getfield 18, 3) := by decide +kernel
theorem dX3_takeBack_27 : decode cX3_takeBack 27 = .ok (.aload_n 0, 1) := by decide +kernel
theorem dX3_takeBack_28 : decode cX3_takeBack 28 = .ok (.getfield 13, 3) := by decide +kernel
theorem dX3_takeBack_31 : decode cX3_takeBack 31 = .ok (.aload_n 0, 1) := by decide +kernel
theorem dX3_takeBack_32 : decode cX3_takeBack 32 = .ok (.getfield 7, 3) := by decide +kernel
theorem dX3_takeBack_35 : decode cX3_takeBack 35 = .ok (.iadd, 1) := by decide +kernel
theorem dX3_takeBack_36 : decode cX3_takeBack 36 = .ok (.bipush 16, 2) := by decide +kernel
theorem dX3_takeBack_38 : decode cX3_takeBack 38 = .ok (.irem, 1) := by decide +kernel
theorem dX3_takeBack_39 : decode cX3_takeBack 39 = .ok (.aaload, 1) := by decide +kernel
theorem dX3_takeBack_40 : decode cX3_takeBack 40 = .ok (.invokevirtual 23, 3) := by decide +kernel
theorem dX3_takeBack_43 : decode cX3_takeBack 43 = .ok (.return_, 1) := by decide +kernel
theorem dX3_forget_0 : decode cX3_forget 0 = .ok (.aload_n 0, 1) := by decide +kernel
theorem dX3_forget_1 : decode cX3_forget 1 = .ok (.iconst 0, 1) := by decide +kernel
theorem dX3_forget_2 : decode cX3_forget 2 = .ok (.putfield 7, 3) := by decide +kernel
theorem dX3_forget_5 : decode cX3_forget 5 = .ok (.return_, 1) := by decide +kernel
theorem dX4_init_0 : decode cX4_init 0 = .ok (.aload_n 0, 1) := by decide +kernel
theorem dX4_init_1 : decode cX4_init 1 = .ok (.invokespecial 3, 3) := by decide +kernel
theorem dX4_init_4 : decode cX4_init 4 = .ok (.aload_n 0, 1) := by decide +kernel
theorem dX4_init_5 : decode cX4_init 5 = .ok (.iconst 1, 1) := by decide +kernel
theorem dX4_init_6 : decode cX4_init 6 = .ok (.putfield 9, 3) := by decide +kernel
theorem dX4_init_9 : decode cX4_init 9 = .ok (.aload_n 0, 1) := by decide +kernel
theorem dX4_init_10 : decode cX4_init 10 = .ok (.iconst 1, 1) := by decide +kernel
theorem dX4_init_11 : decode cX4_init 11 = .ok (.putfield 15, 3) := by decide +kernel
theorem dX4_init_14 : decode cX4_init 14 = .ok (.aload_n 0, 1) := by decide +kernel
theorem dX4_init_15 : decode cX4_init 15 = .ok (.bipush 80, 2) := by decide +kernel
theorem dX4_init_17 : decode cX4_init 17 = .ok (.newarray .int, 2) := by decide +kernel
theorem dX4_init_19 : decode cX4_init 19 = .ok (.putfield 18, 3) := by decide +kernel
theorem dX4_init_22 : decode cX4_init 22 = .ok (.aload_n 0, 1) := by decide +kernel
theorem dX4_init_23 : decode cX4_init 23 = .ok (.bipush 80, 2) := by decide +kernel
theorem dX4_init_25 : decode cX4_init 25 = .ok (.newarray .boolean, 2) := by decide +kernel
theorem dX4_init_27 : decode cX4_init 27 = .ok (.putfield 22, 3) := by decide +kernel
theorem dX4_init_30 : decode cX4_init 30 = .ok (.return_, 1) := by decide +kernel
theorem dX4_dots_0 : decode cX4_dots 0 = .ok (.aload_n 0, 1) := by decide +kernel
theorem dX4_dots_1 : decode cX4_dots 1 = .ok (.getfield 9, 3) := by decide +kernel
theorem dX4_dots_4 : decode cX4_dots 4 = .ok (.aload_n 0, 1) := by decide +kernel
theorem dX4_dots_5 : decode cX4_dots 5 = .ok (.getfield 15, 3) := by decide +kernel
theorem dX4_dots_8 : decode cX4_dots 8 = .ok (.imul, 1) := by decide +kernel
theorem dX4_dots_9 : decode cX4_dots 9 = .ok (.ireturn, 1) := by decide +kernel
theorem dX4_has_0 : decode cX4_has 0 = .ok (.iconst 0, 1) := by decide +kernel
theorem dX4_has_1 : decode cX4_has 1 = .ok (.iload_n 1, 1) := by decide +kernel
theorem dX4_has_2 : decode cX4_has 2 = .ok (.if_icmp .gt 28, 3) := by decide +kernel
theorem dX4_has_5 : decode cX4_has 5 = .ok (.iload_n 1, 1) := by decide +kernel
theorem dX4_has_6 : decode cX4_has 6 = .ok (.aload_n 0, 1) := by decide +kernel
theorem dX4_has_7 : decode cX4_has 7 = .ok (.getfield 9, 3) := by decide +kernel
theorem dX4_has_10 : decode cX4_has 10 = .ok (.if_icmp .ge 20, 3) := by decide +kernel
theorem dX4_has_13 : decode cX4_has 13 = .ok (.iconst 0, 1) := by decide +kernel
theorem dX4_has_14 : decode cX4_has 14 = .ok (.iload_n 2, 1) := by decide +kernel
theorem dX4_has_15 : decode cX4_has 15 = .ok (.if_icmp .gt 15, 3) := by decide +kernel
theorem dX4_has_18 : decode cX4_has 18 = .ok (.iload_n 2, 1) := by decide +kernel
theorem dX4_has_19 : decode cX4_has 19 = .ok (.aload_n 0, 1) := by decide +kernel
theorem dX4_has_20 : decode cX4_has 20 = .ok (.getfield 15, 3) := by decide +kernel
theorem dX4_has_23 : decode cX4_has 23 = .ok (.if_icmp .ge 7, 3) := by decide +kernel
theorem dX4_has_26 : decode cX4_has 26 = .ok (.iconst 1, 1) := by decide +kernel
theorem dX4_has_27 : decode cX4_has 27 = .ok (.goto 4, 3) := by decide +kernel
theorem dX4_has_30 : decode cX4_has 30 = .ok (.iconst 0, 1) := by decide +kernel
theorem dX4_has_31 : decode cX4_has 31 = .ok (.ireturn, 1) := by decide +kernel
theorem dX4_greyOf_0 : decode cX4_greyOf 0 = .ok (.aload_n 0, 1) := by decide +kernel
theorem dX4_greyOf_1 : decode cX4_greyOf 1 = .ok (.iload_n 1, 1) := by decide +kernel
theorem dX4_greyOf_2 : decode cX4_greyOf 2 = .ok (.iload_n 2, 1) := by decide +kernel
theorem dX4_greyOf_3 : decode cX4_greyOf 3 = .ok (.invokevirtual 26, 3) := by decide +kernel
theorem dX4_greyOf_6 : decode cX4_greyOf 6 = .ok (.ifCond .eq 19, 3) := by decide +kernel
theorem dX4_greyOf_9 : decode cX4_greyOf 9 = .ok (.aload_n 0, 1) := by decide +kernel
theorem dX4_greyOf_10 : decode cX4_greyOf 10 = .ok (.getfield 18, 3) := by decide +kernel
theorem dX4_greyOf_13 : decode cX4_greyOf 13 = .ok (.iload_n 2, 1) := by decide +kernel
theorem dX4_greyOf_14 : decode cX4_greyOf 14 = .ok (.aload_n 0, 1) := by decide +kernel
theorem dX4_greyOf_15 : decode cX4_greyOf 15 = .ok (.getfield 9, 3) := by decide +kernel
theorem dX4_greyOf_18 : decode cX4_greyOf 18 = .ok (.imul, 1) := by decide +kernel
theorem dX4_greyOf_19 : decode cX4_greyOf 19 = .ok (.iload_n 1, 1) := by decide +kernel
theorem dX4_greyOf_20 : decode cX4_greyOf 20 = .ok (.iadd, 1) := by decide +kernel
theorem dX4_greyOf_21 : decode cX4_greyOf 21 = .ok (.iaload, 1) := by decide +kernel
theorem dX4_greyOf_22 : decode cX4_greyOf 22 = .ok (.goto 4, 3) := by decide +kernel
theorem dX4_greyOf_25 : decode cX4_greyOf 25 = .ok (.iconst 0, 1) := by decide +kernel
theorem dX4_greyOf_26 : decode cX4_greyOf 26 = .ok (.ireturn, 1) := by decide +kernel
theorem dX4_isMasked_0 : decode cX4_isMasked 0 = .ok (.aload_n 0, 1) := by decide +kernel
theorem dX4_isMasked_1 : decode cX4_isMasked 1 = .ok (.iload_n 1, 1) := by decide +kernel
theorem dX4_isMasked_2 : decode cX4_isMasked 2 = .ok (.iload_n 2, 1) := by decide +kernel
theorem dX4_isMasked_3 : decode cX4_isMasked 3 = .ok (.invokevirtual 26, 3) := by decide +kernel
theorem dX4_isMasked_6 : decode cX4_isMasked 6 = .ok (.ifCond .eq 23, 3) := by decide +kernel
theorem dX4_isMasked_9 : decode cX4_isMasked 9 = .ok (.aload_n 0, 1) := by decide +kernel
theorem dX4_isMasked_10 : decode cX4_isMasked 10 = .ok (.getfield 22, 3) := by decide +kernel
theorem dX4_isMasked_13 : decode cX4_isMasked 13 = .ok (.iload_n 2, 1) := by decide +kernel
theorem dX4_isMasked_14 : decode cX4_isMasked 14 = .ok (.aload_n 0, 1) := by decide +kernel
theorem dX4_isMasked_15 : decode cX4_isMasked 15 = .ok (.getfield 9, 3) := by decide +kernel
theorem dX4_isMasked_18 : decode cX4_isMasked 18 = .ok (.imul, 1) := by decide +kernel
theorem dX4_isMasked_19 : decode cX4_isMasked 19 = .ok (.iload_n 1, 1) := by decide +kernel
theorem dX4_isMasked_20 : decode cX4_isMasked 20 = .ok (.iadd, 1) := by decide +kernel
theorem dX4_isMasked_21 : decode cX4_isMasked 21 = .ok (.baload, 1) := by decide +kernel
theorem dX4_isMasked_22 : decode cX4_isMasked 22 = .ok (.ifCond .eq 7, 3) := by decide +kernel
theorem dX4_isMasked_25 : decode cX4_isMasked 25 = .ok (.iconst 1, 1) := by decide +kernel
theorem dX4_isMasked_26 : decode cX4_isMasked 26 = .ok (.goto 4, 3) := by decide +kernel
theorem dX4_isMasked_29 : decode cX4_isMasked 29 = .ok (.iconst 0, 1) := by decide +kernel
theorem dX4_isMasked_30 : decode cX4_isMasked 30 = .ok (.ireturn, 1) := by decide +kernel
theorem dX4_setGrey_0 : decode cX4_setGrey 0 = .ok (.aload_n 0, 1) := by decide +kernel
theorem dX4_setGrey_1 : decode cX4_setGrey 1 = .ok (.iload_n 1, 1) := by decide +kernel
theorem dX4_setGrey_2 : decode cX4_setGrey 2 = .ok (.iload_n 2, 1) := by decide +kernel
theorem dX4_setGrey_3 : decode cX4_setGrey 3 = .ok (.invokevirtual 26, 3) := by decide +kernel
theorem dX4_setGrey_6 : decode cX4_setGrey 6 = .ok (.ifCond .eq 17, 3) := by decide +kernel
theorem dX4_setGrey_9 : decode cX4_setGrey 9 = .ok (.aload_n 0, 1) := by decide +kernel
theorem dX4_setGrey_10 : decode cX4_setGrey 10 = .ok (.getfield 18, 3) := by decide +kernel
theorem dX4_setGrey_13 : decode cX4_setGrey 13 = .ok (.iload_n 2, 1) := by decide +kernel
theorem dX4_setGrey_14 : decode cX4_setGrey 14 = .ok (.aload_n 0, 1) := by decide +kernel
theorem dX4_setGrey_15 : decode cX4_setGrey 15 = .ok (.getfield 9, 3) := by decide +kernel
theorem dX4_setGrey_18 : decode cX4_setGrey 18 = .ok (.imul, 1) := by decide +kernel
theorem dX4_setGrey_19 : decode cX4_setGrey 19 = .ok (.iload_n 1, 1) := by decide +kernel
theorem dX4_setGrey_20 : decode cX4_setGrey 20 = .ok (.iadd, 1) := by decide +kernel
theorem dX4_setGrey_21 : decode cX4_setGrey 21 = .ok (.iload_n 3, 1) := by decide +kernel
theorem dX4_setGrey_22 : decode cX4_setGrey 22 = .ok (.iastore, 1) := by decide +kernel
theorem dX4_setGrey_23 : decode cX4_setGrey 23 = .ok (.return_, 1) := by decide +kernel
theorem dX4_setMasked_0 : decode cX4_setMasked 0 = .ok (.aload_n 0, 1) := by decide +kernel
theorem dX4_setMasked_1 : decode cX4_setMasked 1 = .ok (.iload_n 1, 1) := by decide +kernel
theorem dX4_setMasked_2 : decode cX4_setMasked 2 = .ok (.iload_n 2, 1) := by decide +kernel
theorem dX4_setMasked_3 : decode cX4_setMasked 3 = .ok (.invokevirtual 26, 3) := by decide +kernel
theorem dX4_setMasked_6 : decode cX4_setMasked 6 = .ok (.ifCond .eq 17, 3) := by decide +kernel
theorem dX4_setMasked_9 : decode cX4_setMasked 9 = .ok (.aload_n 0, 1) := by decide +kernel
theorem dX4_setMasked_10 : decode cX4_setMasked 10 = .ok (.getfield 22, 3) := by decide +kernel
theorem dX4_setMasked_13 : decode cX4_setMasked 13 = .ok (.iload_n 2, 1) := by decide +kernel
theorem dX4_setMasked_14 : decode cX4_setMasked 14 = .ok (.aload_n 0, 1) := by decide +kernel
theorem dX4_setMasked_15 : decode cX4_setMasked 15 = .ok (.getfield 9, 3) := by decide +kernel
theorem dX4_setMasked_18 : decode cX4_setMasked 18 = .ok (.imul, 1) := by decide +kernel
theorem dX4_setMasked_19 : decode cX4_setMasked 19 = .ok (.iload_n 1, 1) := by decide +kernel
theorem dX4_setMasked_20 : decode cX4_setMasked 20 = .ok (.iadd, 1) := by decide +kernel
theorem dX4_setMasked_21 : decode cX4_setMasked 21 = .ok (.iload_n 3, 1) := by decide +kernel
theorem dX4_setMasked_22 : decode cX4_setMasked 22 = .ok (.bastore, 1) := by decide +kernel
theorem dX4_setMasked_23 : decode cX4_setMasked 23 = .ok (.return_, 1) := by decide +kernel
theorem dX4_setInOrder_0 : decode cX4_setInOrder 0 = .ok (.iload_n 1, 1) := by decide +kernel
theorem dX4_setInOrder_1 : decode cX4_setInOrder 1 = .ok (.iconst 0, 1) := by decide +kernel
theorem dX4_setInOrder_2 : decode cX4_setInOrder 2 = .ok (.bipush 79, 2) := by decide +kernel
theorem dX4_setInOrder_4 : decode cX4_setInOrder 4 = .ok (.invokestatic 30, 3) := by decide +kernel
theorem dX4_setInOrder_7 : decode cX4_setInOrder 7 = .ok (.ifCond .eq 17, 3) := by decide +kernel
theorem dX4_setInOrder_10 : decode cX4_setInOrder 10 = .ok (.aload_n 0, 1) := by decide +kernel
theorem dX4_setInOrder_11 : decode cX4_setInOrder 11 = .ok (.getfield 18, 3) := by decide +kernel
theorem dX4_setInOrder_14 : decode cX4_setInOrder 14 = .ok (.iload_n 1, 1) := by decide +kernel
theorem dX4_setInOrder_15 : decode cX4_setInOrder 15 = .ok (.iload_n 2, 1) := by decide +kernel
theorem dX4_setInOrder_16 : decode cX4_setInOrder 16 = .ok (.iastore, 1) := by decide +kernel
theorem dX4_setInOrder_17 : decode cX4_setInOrder 17 = .ok (.aload_n 0, 1) := by decide +kernel
theorem dX4_setInOrder_18 : decode cX4_setInOrder 18 = .ok (.getfield 22, 3) := by decide +kernel
theorem dX4_setInOrder_21 : decode cX4_setInOrder 21 = .ok (.iload_n 1, 1) := by decide +kernel
theorem dX4_setInOrder_22 : decode cX4_setInOrder 22 = .ok (.iload_n 3, 1) := by decide +kernel
theorem dX4_setInOrder_23 : decode cX4_setInOrder 23 = .ok (.bastore, 1) := by decide +kernel
theorem dX4_setInOrder_24 : decode cX4_setInOrder 24 = .ok (.return_, 1) := by decide +kernel
theorem dX4_setSize_0 : decode cX4_setSize 0 = .ok (.iload_n 1, 1) := by decide +kernel
theorem dX4_setSize_1 : decode cX4_setSize 1 = .ok (.iconst 1, 1) := by decide +kernel
theorem dX4_setSize_2 : decode cX4_setSize 2 = .ok (.bipush 10, 2) := by decide +kernel
theorem dX4_setSize_4 : decode cX4_setSize 4 = .ok (.invokestatic 30, 3) := by decide +kernel
theorem dX4_setSize_7 : decode cX4_setSize 7 = .ok (.ifCond .eq 23, 3) := by decide +kernel
theorem dX4_setSize_10 : decode cX4_setSize 10 = .ok (.iload_n 2, 1) := by decide +kernel
theorem dX4_setSize_11 : decode cX4_setSize 11 = .ok (.iconst 1, 1) := by decide +kernel
theorem dX4_setSize_12 : decode cX4_setSize 12 = .ok (.bipush 8, 2) := by decide +kernel
theorem dX4_setSize_14 : decode cX4_setSize 14 = .ok (.invokestatic 30, 3) := by decide +kernel
theorem dX4_setSize_17 : decode cX4_setSize 17 = .ok (.ifCond .eq 13, 3) := by decide +kernel
theorem dX4_setSize_20 : decode cX4_setSize 20 = .ok (.aload_n 0, 1) := by decide +kernel
theorem dX4_setSize_21 : decode cX4_setSize 21 = .ok (.iload_n 1, 1) := by decide +kernel
theorem dX4_setSize_22 : decode cX4_setSize 22 = .ok (.putfield 9, 3) := by decide +kernel
theorem dX4_setSize_25 : decode cX4_setSize 25 = .ok (.aload_n 0, 1) := by decide +kernel
theorem dX4_setSize_26 : decode cX4_setSize 26 = .ok (.iload_n 2, 1) := by decide +kernel
theorem dX4_setSize_27 : decode cX4_setSize 27 = .ok (.putfield 15, 3) := by decide +kernel
theorem dX4_setSize_30 : decode cX4_setSize 30 = .ok (.return_, 1) := by decide +kernel
theorem dX4_become_0 : decode cX4_become 0 = .ok (.aload_n 0, 1) := by decide +kernel
theorem dX4_become_1 : decode cX4_become 1 = .ok (.aload_n 1, 1) := by decide +kernel
theorem dX4_become_2 : decode cX4_become 2 = .ok (.getfield 9, 3) := by decide +kernel
theorem dX4_become_5 : decode cX4_become 5 = .ok (.aload_n 1, 1) := by decide +kernel
theorem dX4_become_6 : decode cX4_become 6 = .ok (.getfield 15, 3) := by decide +kernel
theorem dX4_become_9 : decode cX4_become 9 = .ok (.invokevirtual 34, 3) := by decide +kernel
theorem dX4_become_12 : decode cX4_become 12 = .ok (.iconst 0, 1) := by decide +kernel
theorem dX4_become_13 : decode cX4_become 13 = .ok (.istore_n 2, 1) := by decide +kernel
theorem dX4_become_14 : decode cX4_become 14 = .ok (.iload_n 2, 1) := by decide +kernel
theorem dX4_become_15 : decode cX4_become 15 = .ok (.aload_n 0, 1) := by decide +kernel
theorem dX4_become_16 : decode cX4_become 16 = .ok (.invokevirtual 38, 3) := by decide +kernel
theorem dX4_become_19 : decode cX4_become 19 = .ok (.if_icmp .ge 33, 3) := by decide +kernel
theorem dX4_become_22 : decode cX4_become 22 = .ok (.aload_n 0, 1) := by decide +kernel
theorem dX4_become_23 : decode cX4_become 23 = .ok (.getfield 18, 3) := by decide +kernel
theorem dX4_become_26 : decode cX4_become 26 = .ok (.iload_n 2, 1) := by decide +kernel
theorem dX4_become_27 : decode cX4_become 27 = .ok (.aload_n 1, 1) := by decide +kernel
theorem dX4_become_28 : decode cX4_become 28 = .ok (.getfield 18, 3) := by decide +kernel
theorem dX4_become_31 : decode cX4_become 31 = .ok (.iload_n 2, 1) := by decide +kernel
theorem dX4_become_32 : decode cX4_become 32 = .ok (.iaload, 1) := by decide +kernel
theorem dX4_become_33 : decode cX4_become 33 = .ok (.iastore, 1) := by decide +kernel
theorem dX4_become_34 : decode cX4_become 34 = .ok (.aload_n 0, 1) := by decide +kernel
theorem dX4_become_35 : decode cX4_become 35 = .ok (.getfield 22, 3) := by decide +kernel
theorem dX4_become_38 : decode cX4_become 38 = .ok (.iload_n 2, 1) := by decide +kernel
theorem dX4_become_39 : decode cX4_become 39 = .ok (.aload_n 1, 1) := by decide +kernel
theorem dX4_become_40 : decode cX4_become 40 = .ok (.getfield 22, 3) := by decide +kernel
theorem dX4_become_43 : decode cX4_become 43 = .ok (.iload_n 2, 1) := by decide +kernel
theorem dX4_become_44 : decode cX4_become 44 = .ok (.baload, 1) := by decide +kernel
theorem dX4_become_45 : decode cX4_become 45 = .ok (.bastore, 1) := by decide +kernel
theorem dX4_become_46 : decode cX4_become 46 = .ok (.iinc 2 1, 3) := by decide +kernel
theorem dX4_become_49 : decode cX4_become 49 = .ok (.goto (-35), 3) := by decide +kernel
theorem dX4_become_52 : decode cX4_become 52 = .ok (.return_, 1) := by decide +kernel
theorem dX4_becomeTurned_0 : decode cX4_becomeTurned 0 = .ok (.iload_n 2, 1) := by decide +kernel
theorem dX4_becomeTurned_1 : decode cX4_becomeTurned 1 = .ok (.iconst 2, 1) := by decide +kernel
theorem dX4_becomeTurned_2 : decode cX4_becomeTurned 2 = .ok (.if_icmp .ne 7, 3) := by decide +kernel
theorem dX4_becomeTurned_5 : decode cX4_becomeTurned 5 = .ok (.iconst 1, 1) := by decide +kernel
theorem dX4_becomeTurned_6 : decode cX4_becomeTurned 6 = .ok (.goto 4, 3) := by decide +kernel
theorem dX4_becomeTurned_9 : decode cX4_becomeTurned 9 = .ok (.iconst 0, 1) := by decide +kernel
theorem dX4_becomeTurned_10 : decode cX4_becomeTurned 10 = .ok (.istore_n 3, 1) := by decide +kernel
theorem dX4_becomeTurned_11 : decode cX4_becomeTurned 11 = .ok (.aload_n 0, 1) := by decide +kernel
theorem dX4_becomeTurned_12 : decode cX4_becomeTurned 12 = .ok (.iload_n 3, 1) := by decide +kernel
theorem dX4_becomeTurned_13 : decode cX4_becomeTurned 13 = .ok (.ifCond .eq 10, 3) := by decide +kernel
theorem dX4_becomeTurned_16 : decode cX4_becomeTurned 16 = .ok (.aload_n 1, 1) := by decide +kernel
theorem dX4_becomeTurned_17 : decode cX4_becomeTurned 17 = .ok (.getfield 15, 3) := by decide +kernel
theorem dX4_becomeTurned_20 : decode cX4_becomeTurned 20 = .ok (.goto 7, 3) := by decide +kernel
theorem dX4_becomeTurned_23 : decode cX4_becomeTurned 23 = .ok (.aload_n 1, 1) := by decide +kernel
theorem dX4_becomeTurned_24 : decode cX4_becomeTurned 24 = .ok (.getfield 9, 3) := by decide +kernel
theorem dX4_becomeTurned_27 : decode cX4_becomeTurned 27 = .ok (.iload_n 3, 1) := by decide +kernel
theorem dX4_becomeTurned_28 : decode cX4_becomeTurned 28 = .ok (.ifCond .eq 10, 3) := by decide +kernel
theorem dX4_becomeTurned_31 : decode cX4_becomeTurned 31 = .ok (.aload_n 1, 1) := by decide +kernel
theorem dX4_becomeTurned_32 : decode cX4_becomeTurned 32 = .ok (.getfield 9, 3) := by decide +kernel
theorem dX4_becomeTurned_35 : decode cX4_becomeTurned 35 = .ok (.goto 7, 3) := by decide +kernel
theorem dX4_becomeTurned_38 : decode cX4_becomeTurned 38 = .ok (.aload_n 1, 1) := by decide +kernel
theorem dX4_becomeTurned_39 : decode cX4_becomeTurned 39 = .ok (.getfield 15, 3) := by decide +kernel
theorem dX4_becomeTurned_42 : decode cX4_becomeTurned 42 = .ok (.invokevirtual 34, 3) := by decide +kernel
theorem dX4_becomeTurned_45 : decode cX4_becomeTurned 45 = .ok (.iconst 0, 1) := by decide +kernel
theorem dX4_becomeTurned_46 : decode cX4_becomeTurned 46 = .ok (.istore 4, 2) := by decide +kernel
theorem dX4_becomeTurned_48 : decode cX4_becomeTurned 48 = .ok (.iload 4, 2) := by decide +kernel
theorem dX4_becomeTurned_50 : decode cX4_becomeTurned 50 = .ok (.aload_n 0, 1) := by decide +kernel
theorem dX4_becomeTurned_51 : decode cX4_becomeTurned 51 = .ok (.getfield 15, 3) := by decide +kernel
theorem dX4_becomeTurned_54 : decode cX4_becomeTurned 54 = .ok (.if_icmp .ge 136, 3) := by decide +kernel
theorem dX4_becomeTurned_57 : decode cX4_becomeTurned 57 = .ok (.iconst 0, 1) := by decide +kernel
theorem dX4_becomeTurned_58 : decode cX4_becomeTurned 58 = .ok (.istore 5, 2) := by decide +kernel
theorem dX4_becomeTurned_60 : decode cX4_becomeTurned 60 = .ok (.iload 5, 2) := by decide +kernel
theorem dX4_becomeTurned_62 : decode cX4_becomeTurned 62 = .ok (.aload_n 0, 1) := by decide +kernel
theorem dX4_becomeTurned_63 : decode cX4_becomeTurned 63 = .ok (.getfield 9, 3) := by decide +kernel
theorem dX4_becomeTurned_66 : decode cX4_becomeTurned 66 = .ok (.if_icmp .ge 118, 3) := by decide +kernel
theorem dX4_becomeTurned_69 : decode cX4_becomeTurned 69 = .ok (.iload_n 3, 1) := by decide +kernel
theorem dX4_becomeTurned_70 : decode cX4_becomeTurned 70 = .ok (.ifCond .eq 8, 3) := by decide +kernel
theorem dX4_becomeTurned_73 : decode cX4_becomeTurned 73 = .ok (.iload 4, 2) := by decide +kernel
theorem dX4_becomeTurned_75 : decode cX4_becomeTurned 75 = .ok (.goto 21, 3) := by decide +kernel
theorem dX4_becomeTurned_78 : decode cX4_becomeTurned 78 = .ok (.iload_n 2, 1) := by decide +kernel
theorem dX4_becomeTurned_79 : decode cX4_becomeTurned 79 = .ok (.ifCond .ne 15, 3) := by decide +kernel
theorem dX4_becomeTurned_82 : decode cX4_becomeTurned 82 = .ok (.aload_n 0, 1) := by decide +kernel
theorem dX4_becomeTurned_83 : decode cX4_becomeTurned 83 = .ok (.getfield 9, 3) := by decide +kernel
theorem dX4_becomeTurned_86 : decode cX4_becomeTurned 86 = .ok (.iconst 1, 1) := by decide +kernel
theorem dX4_becomeTurned_87 : decode cX4_becomeTurned 87 = .ok (.isub, 1) := by decide +kernel
theorem dX4_becomeTurned_88 : decode cX4_becomeTurned 88 = .ok (.iload 5, 2) := by decide +kernel
theorem dX4_becomeTurned_90 : decode cX4_becomeTurned 90 = .ok (.isub, 1) := by decide +kernel
theorem dX4_becomeTurned_91 : decode cX4_becomeTurned 91 = .ok (.goto 5, 3) := by decide +kernel
theorem dX4_becomeTurned_94 : decode cX4_becomeTurned 94 = .ok (.iload 5, 2) := by decide +kernel
theorem dX4_becomeTurned_96 : decode cX4_becomeTurned 96 = .ok (.istore 6, 2) := by decide +kernel
theorem dX4_becomeTurned_98 : decode cX4_becomeTurned 98 = .ok (.iload_n 3, 1) := by decide +kernel
theorem dX4_becomeTurned_99 : decode cX4_becomeTurned 99 = .ok (.ifCond .eq 8, 3) := by decide +kernel
theorem dX4_becomeTurned_102 : decode cX4_becomeTurned 102 = .ok (.iload 5, 2) := by decide +kernel
theorem dX4_becomeTurned_104 : decode cX4_becomeTurned 104 = .ok (.goto 22, 3) := by decide +kernel
theorem dX4_becomeTurned_107 : decode cX4_becomeTurned 107 = .ok (.iload_n 2, 1) := by decide +kernel
theorem dX4_becomeTurned_108 : decode cX4_becomeTurned 108 = .ok (.iconst 1, 1) := by decide +kernel
theorem dX4_becomeTurned_109 : decode cX4_becomeTurned 109 = .ok (.if_icmp .ne 15, 3) := by decide +kernel
theorem dX4_becomeTurned_112 : decode cX4_becomeTurned 112 = .ok (.aload_n 0, 1) := by decide +kernel
theorem dX4_becomeTurned_113 : decode cX4_becomeTurned 113 = .ok (.getfield 15, 3) := by decide +kernel
theorem dX4_becomeTurned_116 : decode cX4_becomeTurned 116 = .ok (.iconst 1, 1) := by decide +kernel
theorem dX4_becomeTurned_117 : decode cX4_becomeTurned 117 = .ok (.isub, 1) := by decide +kernel
theorem dX4_becomeTurned_118 : decode cX4_becomeTurned 118 = .ok (.iload 4, 2) := by decide +kernel
theorem dX4_becomeTurned_120 : decode cX4_becomeTurned 120 = .ok (.isub, 1) := by decide +kernel
theorem dX4_becomeTurned_121 : decode cX4_becomeTurned 121 = .ok (.goto 5, 3) := by decide +kernel
theorem dX4_becomeTurned_124 : decode cX4_becomeTurned 124 = .ok (.iload 4, 2) := by decide +kernel
theorem dX4_becomeTurned_126 : decode cX4_becomeTurned 126 = .ok (.istore 7, 2) := by decide +kernel
theorem dX4_becomeTurned_128 : decode cX4_becomeTurned 128 = .ok (.aload_n 1, 1) := by decide +kernel
theorem dX4_becomeTurned_129 : decode cX4_becomeTurned 129 = .ok (.iload 6, 2) := by decide +kernel
theorem dX4_becomeTurned_131 : decode cX4_becomeTurned 131 = .ok (.iload 7, 2) := by decide +kernel
theorem dX4_becomeTurned_133 : decode cX4_becomeTurned 133 = .ok (.invokevirtual 42, 3) := by decide +kernel
theorem dX4_becomeTurned_136 : decode cX4_becomeTurned 136 = .ok (.istore 8, 2) := by decide +kernel
theorem dX4_becomeTurned_138 : decode cX4_becomeTurned 138 = .ok (.aload_n 0, 1) := by decide +kernel
theorem dX4_becomeTurned_139 : decode cX4_becomeTurned 139 = .ok (.iload 5, 2) := by decide +kernel
theorem dX4_becomeTurned_141 : decode cX4_becomeTurned 141 = .ok (.iload 4, 2) := by decide +kernel
theorem dX4_becomeTurned_143 : decode cX4_becomeTurned 143 = .ok (.iload_n 2, 1) := by decide +kernel
theorem dX4_becomeTurned_144 : decode cX4_becomeTurned 144 = .ok (.iconst 3, 1) := by decide +kernel
theorem dX4_becomeTurned_145 : decode cX4_becomeTurned 145 = .ok (.if_icmp .ne 12, 3) := by decide +kernel
theorem dX4_becomeTurned_148 : decode cX4_becomeTurned 148 = .ok (.sipush 255, 3) := by decide +kernel
theorem dX4_becomeTurned_151 : decode cX4_becomeTurned 151 = .ok (.iload 8, 2) := by decide +kernel
theorem dX4_becomeTurned_153 : decode cX4_becomeTurned 153 = .ok (.isub, 1) := by decide +kernel
theorem dX4_becomeTurned_154 : decode cX4_becomeTurned 154 = .ok (.goto 5, 3) := by decide +kernel
theorem dX4_becomeTurned_157 : decode cX4_becomeTurned 157 = .ok (.iload 8, 2) := by decide +kernel
theorem dX4_becomeTurned_159 : decode cX4_becomeTurned 159 = .ok (.invokevirtual 46, 3) := by decide +kernel
theorem dX4_becomeTurned_162 : decode cX4_becomeTurned 162 = .ok (.aload_n 0, 1) := by decide +kernel
theorem dX4_becomeTurned_163 : decode cX4_becomeTurned 163 = .ok (.iload 5, 2) := by decide +kernel
theorem dX4_becomeTurned_165 : decode cX4_becomeTurned 165 = .ok (.iload 4, 2) := by decide +kernel
theorem dX4_becomeTurned_167 : decode cX4_becomeTurned 167 = .ok (.aload_n 1, 1) := by decide +kernel
theorem dX4_becomeTurned_168 : decode cX4_becomeTurned 168 = .ok (.iload 6, 2) := by decide +kernel
theorem dX4_becomeTurned_170 : decode cX4_becomeTurned 170 = .ok (.iload 7, 2) := by decide +kernel
theorem dX4_becomeTurned_172 : decode cX4_becomeTurned 172 = .ok (.invokevirtual 50, 3) := by decide +kernel
theorem dX4_becomeTurned_175 : decode cX4_becomeTurned 175 = .ok (.invokevirtual 53, 3) := by decide +kernel
theorem dX4_becomeTurned_178 : decode cX4_becomeTurned 178 = .ok (.iinc 5 1, 3) := by decide +kernel
theorem dX4_becomeTurned_181 : decode cX4_becomeTurned 181 = .ok (.goto (-121), 3) := by decide +kernel
theorem dX4_becomeTurned_184 : decode cX4_becomeTurned 184 = .ok (.iinc 4 1, 3) := by decide +kernel
theorem dX4_becomeTurned_187 : decode cX4_becomeTurned 187 = .ok (.goto (-139), 3) := by decide +kernel
theorem dX4_becomeTurned_190 : decode cX4_becomeTurned 190 = .ok (.return_, 1) := by decide +kernel
theorem dX4_maskedDots_0 : decode cX4_maskedDots 0 = .ok (.iconst 0, 1) := by decide +kernel
theorem dX4_maskedDots_1 : decode cX4_maskedDots 1 = .ok (.istore_n 1, 1) := by decide +kernel
theorem dX4_maskedDots_2 : decode cX4_maskedDots 2 = .ok (.iconst 0, 1) := by decide +kernel
theorem dX4_maskedDots_3 : decode cX4_maskedDots 3 = .ok (.istore_n 2, 1) := by decide +kernel
theorem dX4_maskedDots_4 : decode cX4_maskedDots 4 = .ok (.iload_n 2, 1) := by decide +kernel
theorem dX4_maskedDots_5 : decode cX4_maskedDots 5 = .ok (.aload_n 0, 1) := by decide +kernel
theorem dX4_maskedDots_6 : decode cX4_maskedDots 6 = .ok (.invokevirtual 38, 3) := by decide +kernel
theorem dX4_maskedDots_9 : decode cX4_maskedDots 9 = .ok (.if_icmp .ge 21, 3) := by decide +kernel
theorem dX4_maskedDots_12 : decode cX4_maskedDots 12 = .ok (.aload_n 0, 1) := by decide +kernel
theorem dX4_maskedDots_13 : decode cX4_maskedDots 13 = .ok (.getfield 22, 3) := by decide +kernel
theorem dX4_maskedDots_16 : decode cX4_maskedDots 16 = .ok (.iload_n 2, 1) := by decide +kernel
theorem dX4_maskedDots_17 : decode cX4_maskedDots 17 = .ok (.baload, 1) := by decide +kernel
theorem dX4_maskedDots_18 : decode cX4_maskedDots 18 = .ok (.ifCond .eq 6, 3) := by decide +kernel
theorem dX4_maskedDots_21 : decode cX4_maskedDots 21 = .ok (.iinc 1 1, 3) := by decide +kernel
theorem dX4_maskedDots_24 : decode cX4_maskedDots 24 = .ok (.iinc 2 1, 3) := by decide +kernel
theorem dX4_maskedDots_27 : decode cX4_maskedDots 27 = .ok (.goto (-23), 3) := by decide +kernel
theorem dX4_maskedDots_30 : decode cX4_maskedDots 30 = .ok (.iload_n 1, 1) := by decide +kernel
theorem dX4_maskedDots_31 : decode cX4_maskedDots 31 = .ok (.ireturn, 1) := by decide +kernel
theorem dX4_leastGrey_0 : decode cX4_leastGrey 0 = .ok (.iconst (-1), 1) := by decide +kernel
theorem dX4_leastGrey_1 : decode cX4_leastGrey 1 = .ok (.istore_n 1, 1) := by decide +kernel
theorem dX4_leastGrey_2 : decode cX4_leastGrey 2 = .ok (.iconst 0, 1) := by decide +kernel
theorem dX4_leastGrey_3 : decode cX4_leastGrey 3 = .ok (.istore_n 2, 1) := by decide +kernel
theorem dX4_leastGrey_4 : decode cX4_leastGrey 4 = .ok (.iload_n 2, 1) := by decide +kernel
theorem dX4_leastGrey_5 : decode cX4_leastGrey 5 = .ok (.aload_n 0, 1) := by decide +kernel
theorem dX4_leastGrey_6 : decode cX4_leastGrey 6 = .ok (.invokevirtual 38, 3) := by decide +kernel
theorem dX4_leastGrey_9 : decode cX4_leastGrey 9 = .ok (.if_icmp .ge 40, 3) := by decide +kernel
theorem dX4_leastGrey_12 : decode cX4_leastGrey 12 = .ok (.aload_n 0, 1) := by decide +kernel
theorem dX4_leastGrey_13 : decode cX4_leastGrey 13 = .ok (.getfield 22, 3) := by decide +kernel
theorem dX4_leastGrey_16 : decode cX4_leastGrey 16 = .ok (.iload_n 2, 1) := by decide +kernel
theorem dX4_leastGrey_17 : decode cX4_leastGrey 17 = .ok (.baload, 1) := by decide +kernel
theorem dX4_leastGrey_18 : decode cX4_leastGrey 18 = .ok (.ifCond .ne 25, 3) := by decide +kernel
theorem dX4_leastGrey_21 : decode cX4_leastGrey 21 = .ok (.iload_n 1, 1) := by decide +kernel
theorem dX4_leastGrey_22 : decode cX4_leastGrey 22 = .ok (.iconst (-1), 1) := by decide +kernel
theorem dX4_leastGrey_23 : decode cX4_leastGrey 23 = .ok (.if_icmp .eq 13, 3) := by decide +kernel
theorem dX4_leastGrey_26 : decode cX4_leastGrey 26 = .ok (.aload_n 0, 1) := by decide +kernel
theorem dX4_leastGrey_27 : decode cX4_leastGrey 27 = .ok (.getfield 18, 3) := by decide +kernel
theorem dX4_leastGrey_30 : decode cX4_leastGrey 30 = .ok (.iload_n 2, 1) := by decide +kernel
theorem dX4_leastGrey_31 : decode cX4_leastGrey 31 = .ok (.iaload, 1) := by decide +kernel
theorem dX4_leastGrey_32 : decode cX4_leastGrey 32 = .ok (.iload_n 1, 1) := by decide +kernel
theorem dX4_leastGrey_33 : decode cX4_leastGrey 33 = .ok (.if_icmp .ge 10, 3) := by decide +kernel
theorem dX4_leastGrey_36 : decode cX4_leastGrey 36 = .ok (.aload_n 0, 1) := by decide +kernel
theorem dX4_leastGrey_37 : decode cX4_leastGrey 37 = .ok (.getfield 18, 3) := by decide +kernel
theorem dX4_leastGrey_40 : decode cX4_leastGrey 40 = .ok (.iload_n 2, 1) := by decide +kernel
theorem dX4_leastGrey_41 : decode cX4_leastGrey 41 = .ok (.iaload, 1) := by decide +kernel
theorem dX4_leastGrey_42 : decode cX4_leastGrey 42 = .ok (.istore_n 1, 1) := by decide +kernel
theorem dX4_leastGrey_43 : decode cX4_leastGrey 43 = .ok (.iinc 2 1, 3) := by decide +kernel
theorem dX4_leastGrey_46 : decode cX4_leastGrey 46 = .ok (.goto (-42), 3) := by decide +kernel
theorem dX4_leastGrey_49 : decode cX4_leastGrey 49 = .ok (.iload_n 1, 1) := by decide +kernel
theorem dX4_leastGrey_50 : decode cX4_leastGrey 50 = .ok (.ireturn, 1) := by decide +kernel
theorem dX4_greatestGrey_0 : decode cX4_greatestGrey 0 = .ok (.iconst (-1), 1) := by decide +kernel
theorem dX4_greatestGrey_1 : decode cX4_greatestGrey 1 = .ok (.istore_n 1, 1) := by decide +kernel
theorem dX4_greatestGrey_2 : decode cX4_greatestGrey 2 = .ok (.iconst 0, 1) := by decide +kernel
theorem dX4_greatestGrey_3 : decode cX4_greatestGrey 3 = .ok (.istore_n 2, 1) := by decide +kernel
theorem dX4_greatestGrey_4 : decode cX4_greatestGrey 4 = .ok (.iload_n 2, 1) := by decide +kernel
theorem dX4_greatestGrey_5 : decode cX4_greatestGrey 5 = .ok (.aload_n 0, 1) := by decide +kernel
theorem dX4_greatestGrey_6 : decode cX4_greatestGrey 6 = .ok (.invokevirtual 38, 3) := by decide +kernel
theorem dX4_greatestGrey_9 : decode cX4_greatestGrey 9 = .ok (.if_icmp .ge 35, 3) := by decide +kernel
theorem dX4_greatestGrey_12 : decode cX4_greatestGrey 12 = .ok (.aload_n 0, 1) := by decide +kernel
theorem dX4_greatestGrey_13 : decode cX4_greatestGrey 13 = .ok (.getfield 22, 3) := by decide +kernel
theorem dX4_greatestGrey_16 : decode cX4_greatestGrey 16 = .ok (.iload_n 2, 1) := by decide +kernel
theorem dX4_greatestGrey_17 : decode cX4_greatestGrey 17 = .ok (.baload, 1) := by decide +kernel
theorem dX4_greatestGrey_18 : decode cX4_greatestGrey 18 = .ok (.ifCond .ne 20, 3) := by decide +kernel
theorem dX4_greatestGrey_21 : decode cX4_greatestGrey 21 = .ok (.aload_n 0, 1) := by decide +kernel
theorem dX4_greatestGrey_22 : decode cX4_greatestGrey 22 = .ok (.getfield 18, 3) := by decide +kernel
theorem dX4_greatestGrey_25 : decode cX4_greatestGrey 25 = .ok (.iload_n 2, 1) := by decide +kernel
theorem dX4_greatestGrey_26 : decode cX4_greatestGrey 26 = .ok (.iaload, 1) := by decide +kernel
theorem dX4_greatestGrey_27 : decode cX4_greatestGrey 27 = .ok (.iload_n 1, 1) := by decide +kernel
theorem dX4_greatestGrey_28 : decode cX4_greatestGrey 28 = .ok (.if_icmp .le 10, 3) := by decide +kernel
theorem dX4_greatestGrey_31 : decode cX4_greatestGrey 31 = .ok (.aload_n 0, 1) := by decide +kernel
theorem dX4_greatestGrey_32 : decode cX4_greatestGrey 32 = .ok (.getfield 18, 3) := by decide +kernel
theorem dX4_greatestGrey_35 : decode cX4_greatestGrey 35 = .ok (.iload_n 2, 1) := by decide +kernel
theorem dX4_greatestGrey_36 : decode cX4_greatestGrey 36 = .ok (.iaload, 1) := by decide +kernel
theorem dX4_greatestGrey_37 : decode cX4_greatestGrey 37 = .ok (.istore_n 1, 1) := by decide +kernel
theorem dX4_greatestGrey_38 : decode cX4_greatestGrey 38 = .ok (.iinc 2 1, 3) := by decide +kernel
theorem dX4_greatestGrey_41 : decode cX4_greatestGrey 41 = .ok (.goto (-37), 3) := by decide +kernel
theorem dX4_greatestGrey_44 : decode cX4_greatestGrey 44 = .ok (.iload_n 1, 1) := by decide +kernel
theorem dX4_greatestGrey_45 : decode cX4_greatestGrey 45 = .ok (.ireturn, 1) := by decide +kernel
theorem dX4_greysTogether_0 : decode cX4_greysTogether 0 = .ok (.iconst 0, 1) := by decide +kernel
theorem dX4_greysTogether_1 : decode cX4_greysTogether 1 = .ok (.istore_n 1, 1) := by decide +kernel
theorem dX4_greysTogether_2 : decode cX4_greysTogether 2 = .ok (.iconst 0, 1) := by decide +kernel
theorem dX4_greysTogether_3 : decode cX4_greysTogether 3 = .ok (.istore_n 2, 1) := by decide +kernel
theorem dX4_greysTogether_4 : decode cX4_greysTogether 4 = .ok (.iload_n 2, 1) := by decide +kernel
theorem dX4_greysTogether_5 : decode cX4_greysTogether 5 = .ok (.aload_n 0, 1) := by decide +kernel
theorem dX4_greysTogether_6 : decode cX4_greysTogether 6 = .ok (.invokevirtual 38, 3) := by decide +kernel
theorem dX4_greysTogether_9 : decode cX4_greysTogether 9 = .ok (.if_icmp .ge 27, 3) := by decide +kernel
theorem dX4_greysTogether_12 : decode cX4_greysTogether 12 = .ok (.aload_n 0, 1) := by decide +kernel
theorem dX4_greysTogether_13 : decode cX4_greysTogether 13 = .ok (.getfield 22, 3) := by decide +kernel
theorem dX4_greysTogether_16 : decode cX4_greysTogether 16 = .ok (.iload_n 2, 1) := by decide +kernel
theorem dX4_greysTogether_17 : decode cX4_greysTogether 17 = .ok (.baload, 1) := by decide +kernel
theorem dX4_greysTogether_18 : decode cX4_greysTogether 18 = .ok (.ifCond .ne 12, 3) := by decide +kernel
theorem dX4_greysTogether_21 : decode cX4_greysTogether 21 = .ok (.iload_n 1, 1) := by decide +kernel
theorem dX4_greysTogether_22 : decode cX4_greysTogether 22 = .ok (.aload_n 0, 1) := by decide +kernel
theorem dX4_greysTogether_23 : decode cX4_greysTogether 23 = .ok (.getfield 18, 3) := by decide +kernel
theorem dX4_greysTogether_26 : decode cX4_greysTogether 26 = .ok (.iload_n 2, 1) := by decide +kernel
theorem dX4_greysTogether_27 : decode cX4_greysTogether 27 = .ok (.iaload, 1) := by decide +kernel
theorem dX4_greysTogether_28 : decode cX4_greysTogether 28 = .ok (.iadd, 1) := by decide +kernel
theorem dX4_greysTogether_29 : decode cX4_greysTogether 29 = .ok (.istore_n 1, 1) := by decide +kernel
theorem dX4_greysTogether_30 : decode cX4_greysTogether 30 = .ok (.iinc 2 1, 3) := by decide +kernel
theorem dX4_greysTogether_33 : decode cX4_greysTogether 33 = .ok (.goto (-29), 3) := by decide +kernel
theorem dX4_greysTogether_36 : decode cX4_greysTogether 36 = .ok (.iload_n 1, 1) := by decide +kernel
theorem dX4_greysTogether_37 : decode cX4_greysTogether 37 = .ok (.ireturn, 1) := by decide +kernel
theorem dX4_dotsUpTo_0 : decode cX4_dotsUpTo 0 = .ok (.iconst 0, 1) := by decide +kernel
theorem dX4_dotsUpTo_1 : decode cX4_dotsUpTo 1 = .ok (.istore 6, 2) := by decide +kernel
theorem dX4_dotsUpTo_3 : decode cX4_dotsUpTo 3 = .ok (.iload_n 2, 1) := by decide +kernel
theorem dX4_dotsUpTo_4 : decode cX4_dotsUpTo 4 = .ok (.istore 7, 2) := by decide +kernel
theorem dX4_dotsUpTo_6 : decode cX4_dotsUpTo 6 = .ok (.iload 7, 2) := by decide +kernel
theorem dX4_dotsUpTo_8 : decode cX4_dotsUpTo 8 = .ok (.iload 4, 2) := by decide +kernel
theorem dX4_dotsUpTo_10 : decode cX4_dotsUpTo 10 = .ok (.if_icmp .gt 51, 3) := by decide +kernel
theorem dX4_dotsUpTo_13 : decode cX4_dotsUpTo 13 = .ok (.iload_n 1, 1) := by decide +kernel
theorem dX4_dotsUpTo_14 : decode cX4_dotsUpTo 14 = .ok (.istore 8, 2) := by decide +kernel
theorem dX4_dotsUpTo_16 : decode cX4_dotsUpTo 16 = .ok (.iload 8, 2) := by decide +kernel
theorem dX4_dotsUpTo_18 : decode cX4_dotsUpTo 18 = .ok (.iload_n 3, 1) := by decide +kernel
theorem dX4_dotsUpTo_19 : decode cX4_dotsUpTo 19 = .ok (.if_icmp .gt 36, 3) := by decide +kernel
theorem dX4_dotsUpTo_22 : decode cX4_dotsUpTo 22 = .ok (.aload_n 0, 1) := by decide +kernel
theorem dX4_dotsUpTo_23 : decode cX4_dotsUpTo 23 = .ok (.iload 8, 2) := by decide +kernel
theorem dX4_dotsUpTo_25 : decode cX4_dotsUpTo 25 = .ok (.iload 7, 2) := by decide +kernel
theorem dX4_dotsUpTo_27 : decode cX4_dotsUpTo 27 = .ok (.invokevirtual 50, 3) := by decide +kernel
theorem dX4_dotsUpTo_30 : decode cX4_dotsUpTo 30 = .ok (.ifCond .ne 19, 3) := by decide +kernel
theorem dX4_dotsUpTo_33 : decode cX4_dotsUpTo 33 = .ok (.aload_n 0, 1) := by decide +kernel
theorem dX4_dotsUpTo_34 : decode cX4_dotsUpTo 34 = .ok (.iload 8, 2) := by decide +kernel
theorem dX4_dotsUpTo_36 : decode cX4_dotsUpTo 36 = .ok (.iload 7, 2) := by decide +kernel
theorem dX4_dotsUpTo_38 : decode cX4_dotsUpTo 38 = .ok (.invokevirtual 42, 3) := by decide +kernel
theorem dX4_dotsUpTo_41 : decode cX4_dotsUpTo 41 = .ok (.iload 5, 2) := by decide +kernel
theorem dX4_dotsUpTo_43 : decode cX4_dotsUpTo 43 = .ok (.if_icmp .gt 6, 3) := by decide +kernel
theorem dX4_dotsUpTo_46 : decode cX4_dotsUpTo 46 = .ok (.iinc 6 1, 3) := by decide +kernel
theorem dX4_dotsUpTo_49 : decode cX4_dotsUpTo 49 = .ok (.iinc 8 1, 3) := by decide +kernel
theorem dX4_dotsUpTo_52 : decode cX4_dotsUpTo 52 = .ok (.goto (-36), 3) := by decide +kernel
theorem dX4_dotsUpTo_55 : decode cX4_dotsUpTo 55 = .ok (.iinc 7 1, 3) := by decide +kernel
theorem dX4_dotsUpTo_58 : decode cX4_dotsUpTo 58 = .ok (.goto (-52), 3) := by decide +kernel
theorem dX4_dotsUpTo_61 : decode cX4_dotsUpTo 61 = .ok (.iload 6, 2) := by decide +kernel
theorem dX4_dotsUpTo_63 : decode cX4_dotsUpTo 63 = .ok (.ireturn, 1) := by decide +kernel
theorem dX4_greysOtherThan_0 : decode cX4_greysOtherThan 0 = .ok (.iconst 0, 1) := by decide +kernel
theorem dX4_greysOtherThan_1 : decode cX4_greysOtherThan 1 = .ok (.istore_n 2, 1) := by decide +kernel
theorem dX4_greysOtherThan_2 : decode cX4_greysOtherThan 2 = .ok (.iconst 0, 1) := by decide +kernel
theorem dX4_greysOtherThan_3 : decode cX4_greysOtherThan 3 = .ok (.istore_n 3, 1) := by decide +kernel
theorem dX4_greysOtherThan_4 : decode cX4_greysOtherThan 4 = .ok (.iload_n 3, 1) := by decide +kernel
theorem dX4_greysOtherThan_5 : decode cX4_greysOtherThan 5 = .ok (.aload_n 0, 1) := by decide +kernel
theorem dX4_greysOtherThan_6 : decode cX4_greysOtherThan 6 = .ok (.invokevirtual 38, 3) := by decide +kernel
theorem dX4_greysOtherThan_9 : decode cX4_greysOtherThan 9 = .ok (.if_icmp .ge 27, 3) := by decide +kernel
theorem dX4_greysOtherThan_12 : decode cX4_greysOtherThan 12 = .ok (.aload_n 0, 1) := by decide +kernel
theorem dX4_greysOtherThan_13 : decode cX4_greysOtherThan 13 = .ok (.getfield 18, 3) := by decide +kernel
theorem dX4_greysOtherThan_16 : decode cX4_greysOtherThan 16 = .ok (.iload_n 3, 1) := by decide +kernel
theorem dX4_greysOtherThan_17 : decode cX4_greysOtherThan 17 = .ok (.iaload, 1) := by decide +kernel
theorem dX4_greysOtherThan_18 : decode cX4_greysOtherThan 18 = .ok (.aload_n 1, 1) := by decide +kernel
theorem dX4_greysOtherThan_19 : decode cX4_greysOtherThan 19 = .ok (.getfield 18, 3) := by decide +kernel
theorem dX4_greysOtherThan_22 : decode cX4_greysOtherThan 22 = .ok (.iload_n 3, 1) := by decide +kernel
theorem dX4_greysOtherThan_23 : decode cX4_greysOtherThan 23 = .ok (.iaload, 1) := by decide +kernel
theorem dX4_greysOtherThan_24 : decode cX4_greysOtherThan 24 = .ok (.if_icmp .eq 6, 3) := by decide +kernel
theorem dX4_greysOtherThan_27 : decode cX4_greysOtherThan 27 = .ok (.iinc 2 1, 3) := by decide +kernel
theorem dX4_greysOtherThan_30 : decode cX4_greysOtherThan 30 = .ok (.iinc 3 1, 3) := by decide +kernel
theorem dX4_greysOtherThan_33 : decode cX4_greysOtherThan 33 = .ok (.goto (-29), 3) := by decide +kernel
theorem dX4_greysOtherThan_36 : decode cX4_greysOtherThan 36 = .ok (.iload_n 2, 1) := by decide +kernel
theorem dX4_greysOtherThan_37 : decode cX4_greysOtherThan 37 = .ok (.ireturn, 1) := by decide +kernel
theorem dX4_dotsOtherThan_0 : decode cX4_dotsOtherThan 0 = .ok (.aload_n 0, 1) := by decide +kernel
theorem dX4_dotsOtherThan_1 : decode cX4_dotsOtherThan 1 = .ok (.getfield 9, 3) := by decide +kernel
theorem dX4_dotsOtherThan_4 : decode cX4_dotsOtherThan 4 = .ok (.aload_n 1, 1) := by decide +kernel
theorem dX4_dotsOtherThan_5 : decode cX4_dotsOtherThan 5 = .ok (.getfield 9, 3) := by decide +kernel
theorem dX4_dotsOtherThan_8 : decode cX4_dotsOtherThan 8 = .ok (.if_icmp .ne 14, 3) := by decide +kernel
theorem dX4_dotsOtherThan_11 : decode cX4_dotsOtherThan 11 = .ok (.aload_n 0, 1) := by decide +kernel
theorem dX4_dotsOtherThan_12 : decode cX4_dotsOtherThan 12 = .ok (.getfield 15, 3) := by decide +kernel
theorem dX4_dotsOtherThan_15 : decode cX4_dotsOtherThan 15 = .ok (.aload_n 1, 1) := by decide +kernel
theorem dX4_dotsOtherThan_16 : decode cX4_dotsOtherThan 16 = .ok (.getfield 15, 3) := by decide +kernel
theorem dX4_dotsOtherThan_19 : decode cX4_dotsOtherThan 19 = .ok (.if_icmp .eq 5, 3) := by decide +kernel
theorem dX4_dotsOtherThan_22 : decode cX4_dotsOtherThan 22 = .ok (.iconst (-1), 1) := by decide +kernel
theorem dX4_dotsOtherThan_23 : decode cX4_dotsOtherThan 23 = .ok (.ireturn, 1) := by decide +kernel
theorem dX4_dotsOtherThan_24 : decode cX4_dotsOtherThan 24 = .ok (.iconst 0, 1) := by decide +kernel
theorem dX4_dotsOtherThan_25 : decode cX4_dotsOtherThan 25 = .ok (.istore_n 2, 1) := by decide +kernel
theorem dX4_dotsOtherThan_26 : decode cX4_dotsOtherThan 26 = .ok (.iconst 0, 1) := by decide +kernel
theorem dX4_dotsOtherThan_27 : decode cX4_dotsOtherThan 27 = .ok (.istore_n 3, 1) := by decide +kernel
theorem dX4_dotsOtherThan_28 : decode cX4_dotsOtherThan 28 = .ok (.iload_n 3, 1) := by decide +kernel
theorem dX4_dotsOtherThan_29 : decode cX4_dotsOtherThan 29 = .ok (.aload_n 0, 1) := by decide +kernel
theorem dX4_dotsOtherThan_30 : decode cX4_dotsOtherThan 30 = .ok (.invokevirtual 38, 3) := by decide +kernel
theorem dX4_dotsOtherThan_33 : decode cX4_dotsOtherThan 33 = .ok (.if_icmp .ge 42, 3) := by decide +kernel
theorem dX4_dotsOtherThan_36 : decode cX4_dotsOtherThan 36 = .ok (.aload_n 0, 1) := by decide +kernel
theorem dX4_dotsOtherThan_37 : decode cX4_dotsOtherThan 37 = .ok (.getfield 18, 3) := by decide +kernel
theorem dX4_dotsOtherThan_40 : decode cX4_dotsOtherThan 40 = .ok (.iload_n 3, 1) := by decide +kernel
theorem dX4_dotsOtherThan_41 : decode cX4_dotsOtherThan 41 = .ok (.iaload, 1) := by decide +kernel
theorem dX4_dotsOtherThan_42 : decode cX4_dotsOtherThan 42 = .ok (.aload_n 1, 1) := by decide +kernel
theorem dX4_dotsOtherThan_43 : decode cX4_dotsOtherThan 43 = .ok (.getfield 18, 3) := by decide +kernel
theorem dX4_dotsOtherThan_46 : decode cX4_dotsOtherThan 46 = .ok (.iload_n 3, 1) := by decide +kernel
theorem dX4_dotsOtherThan_47 : decode cX4_dotsOtherThan 47 = .ok (.iaload, 1) := by decide +kernel
theorem dX4_dotsOtherThan_48 : decode cX4_dotsOtherThan 48 = .ok (.if_icmp .ne 18, 3) := by decide +kernel
theorem dX4_dotsOtherThan_51 : decode cX4_dotsOtherThan 51 = .ok (.aload_n 0, 1) := by decide +kernel
theorem dX4_dotsOtherThan_52 : decode cX4_dotsOtherThan 52 = .ok (.getfield 22, 3) := by decide +kernel
theorem dX4_dotsOtherThan_55 : decode cX4_dotsOtherThan 55 = .ok (.iload_n 3, 1) := by decide +kernel
theorem dX4_dotsOtherThan_56 : decode cX4_dotsOtherThan 56 = .ok (.baload, 1) := by decide +kernel
theorem dX4_dotsOtherThan_57 : decode cX4_dotsOtherThan 57 = .ok (.aload_n 1, 1) := by decide +kernel
theorem dX4_dotsOtherThan_58 : decode cX4_dotsOtherThan 58 = .ok (.getfield 22, 3) := by decide +kernel
theorem dX4_dotsOtherThan_61 : decode cX4_dotsOtherThan 61 = .ok (.iload_n 3, 1) := by decide +kernel
theorem dX4_dotsOtherThan_62 : decode cX4_dotsOtherThan 62 = .ok (.baload, 1) := by decide +kernel
theorem dX4_dotsOtherThan_63 : decode cX4_dotsOtherThan 63 = .ok (.if_icmp .eq 6, 3) := by decide +kernel
theorem dX4_dotsOtherThan_66 : decode cX4_dotsOtherThan 66 = .ok (.iinc 2 1, 3) := by decide +kernel
theorem dX4_dotsOtherThan_69 : decode cX4_dotsOtherThan 69 = .ok (.iinc 3 1, 3) := by decide +kernel
theorem dX4_dotsOtherThan_72 : decode cX4_dotsOtherThan 72 = .ok (.goto (-44), 3) := by decide +kernel
theorem dX4_dotsOtherThan_75 : decode cX4_dotsOtherThan 75 = .ok (.iload_n 2, 1) := by decide +kernel
theorem dX4_dotsOtherThan_76 : decode cX4_dotsOtherThan 76 = .ok (.ireturn, 1) := by decide +kernel
theorem dX5_init_0 : decode cX5_init 0 = .ok (.aload_n 0, 1) := by decide +kernel
theorem dX5_init_1 : decode cX5_init 1 = .ok (.invokespecial 3, 3) := by decide +kernel
theorem dX5_init_4 : decode cX5_init 4 = .ok (.aload_n 0, 1) := by decide +kernel
theorem dX5_init_5 : decode cX5_init 5 = .ok (.iconst 0, 1) := by decide +kernel
theorem dX5_init_6 : decode cX5_init 6 = .ok (.putfield 9, 3) := by decide +kernel
theorem dX5_init_9 : decode cX5_init 9 = .ok (.aload_n 0, 1) := by decide +kernel
theorem dX5_init_10 : decode cX5_init 10 = .ok (.bipush 10, 2) := by decide +kernel
theorem dX5_init_12 : decode cX5_init 12 = .ok (.putfield 15, 3) := by decide +kernel
theorem dX5_init_15 : decode cX5_init 15 = .ok (.aload_n 0, 1) := by decide +kernel
theorem dX5_init_16 : decode cX5_init 16 = .ok (.iconst 0, 1) := by decide +kernel
theorem dX5_init_17 : decode cX5_init 17 = .ok (.putfield 18, 3) := by decide +kernel
theorem dX5_init_20 : decode cX5_init 20 = .ok (.aload_n 0, 1) := by decide +kernel
theorem dX5_init_21 : decode cX5_init 21 = .ok (.iconst 0, 1) := by decide +kernel
theorem dX5_init_22 : decode cX5_init 22 = .ok (.putfield 21, 3) := by decide +kernel
theorem dX5_init_25 : decode cX5_init 25 = .ok (.aload_n 0, 1) := by decide +kernel
theorem dX5_init_26 : decode cX5_init 26 = .ok (.iconst (-1), 1) := by decide +kernel
theorem dX5_init_27 : decode cX5_init 27 = .ok (.putfield 24, 3) := by decide +kernel
theorem dX5_init_30 : decode cX5_init 30 = .ok (.aload_n 0, 1) := by decide +kernel
theorem dX5_init_31 : decode cX5_init 31 = .ok (.aload_n 1, 1) := by decide +kernel
theorem dX5_init_32 : decode cX5_init 32 = .ok (.putfield 27, 3) := by decide +kernel
theorem dX5_init_35 : decode cX5_init 35 = .ok (.return_, 1) := by decide +kernel
theorem dX5_take_0 : decode cX5_take 0 = .ok (.iload_n 1, 1) := by decide +kernel
theorem dX5_take_1 : decode cX5_take 1 = .ok (.bipush 47, 2) := by decide +kernel
theorem dX5_take_3 : decode cX5_take 3 = .ok (.if_icmp .ne 9, 3) := by decide +kernel
theorem dX5_take_6 : decode cX5_take 6 = .ok (.aload_n 0, 1) := by decide +kernel
theorem dX5_take_7 : decode cX5_take 7 = .ok (.iconst 0, 1) := by decide +kernel
theorem dX5_take_8 : decode cX5_take 8 = .ok (.invokevirtual 31, 3) := by decide +kernel
theorem dX5_take_11 : decode cX5_take 11 = .ok (.ireturn, 1) := by decide +kernel
theorem dX5_take_12 : decode cX5_take 12 = .ok (.iload_n 1, 1) := by decide +kernel
theorem dX5_take_13 : decode cX5_take 13 = .ok (.invokestatic 35, 3) := by decide +kernel
theorem dX5_take_16 : decode cX5_take 16 = .ok (.istore_n 2, 1) := by decide +kernel
theorem dX5_take_17 : decode cX5_take 17 = .ok (.iload_n 2, 1) := by decide +kernel
theorem dX5_take_18 : decode cX5_take 18 = .ok (.iconst (-1), 1) := by decide +kernel
theorem dX5_take_19 : decode cX5_take 19 = .ok (.if_icmp .ne 5, 3) := by decide +kernel
theorem dX5_take_22 : decode cX5_take 22 = .ok (.iconst 1, 1) := by decide +kernel
theorem dX5_take_23 : decode cX5_take 23 = .ok (.ireturn, 1) := by decide +kernel
theorem dX5_take_24 : decode cX5_take 24 = .ok (.aload_n 0, 1) := by decide +kernel
theorem dX5_take_25 : decode cX5_take 25 = .ok (.getfield 24, 3) := by decide +kernel
theorem dX5_take_28 : decode cX5_take 28 = .ok (.iconst (-1), 1) := by decide +kernel
theorem dX5_take_29 : decode cX5_take 29 = .ok (.if_icmp .ne 11, 3) := by decide +kernel
theorem dX5_take_32 : decode cX5_take 32 = .ok (.aload_n 0, 1) := by decide +kernel
theorem dX5_take_33 : decode cX5_take 33 = .ok (.iload_n 2, 1) := by decide +kernel
theorem dX5_take_34 : decode cX5_take 34 = .ok (.invokevirtual 39, 3) := by decide +kernel
theorem dX5_take_37 : decode cX5_take 37 = .ok (.goto 8, 3) := by decide +kernel
theorem dX5_take_40 : decode cX5_take 40 = .ok (.aload_n 0, 1) := by decide +kernel
theorem dX5_take_41 : decode cX5_take 41 = .ok (.iload_n 2, 1) := by decide +kernel
theorem dX5_take_42 : decode cX5_take 42 = .ok (.invokevirtual 42, 3) := by decide +kernel
theorem dX5_take_45 : decode cX5_take 45 = .ok (.ireturn, 1) := by decide +kernel
theorem dX5_takeRowEnd_0 : decode cX5_takeRowEnd 0 = .ok (.aload_n 0, 1) := by decide +kernel
theorem dX5_takeRowEnd_1 : decode cX5_takeRowEnd 1 = .ok (.getfield 24, 3) := by decide +kernel
theorem dX5_takeRowEnd_4 : decode cX5_takeRowEnd 4 = .ok (.iconst (-1), 1) := by decide +kernel
theorem dX5_takeRowEnd_5 : decode cX5_takeRowEnd 5 = .ok (.if_icmp .ne 10, 3) := by decide +kernel
theorem dX5_takeRowEnd_8 : decode cX5_takeRowEnd 8 = .ok (.aload_n 0, 1) := by decide +kernel
theorem dX5_takeRowEnd_9 : decode cX5_takeRowEnd 9 = .ok (.getfield 21, 3) := by decide +kernel
theorem dX5_takeRowEnd_12 : decode cX5_takeRowEnd 12 = .ok (.ifCond .ne 5, 3) := by decide +kernel
theorem dX5_takeRowEnd_15 : decode cX5_takeRowEnd 15 = .ok (.iconst 1, 1) := by decide +kernel
theorem dX5_takeRowEnd_16 : decode cX5_takeRowEnd 16 = .ok (.ireturn, 1) := by decide +kernel
theorem dX5_takeRowEnd_17 : decode cX5_takeRowEnd 17 = .ok (.aload_n 0, 1) := by decide +kernel
theorem dX5_takeRowEnd_18 : decode cX5_takeRowEnd 18 = .ok (.getfield 18, 3) := by decide +kernel
theorem dX5_takeRowEnd_21 : decode cX5_takeRowEnd 21 = .ok (.ifCond .ne 11, 3) := by decide +kernel
theorem dX5_takeRowEnd_24 : decode cX5_takeRowEnd 24 = .ok (.aload_n 0, 1) := by decide +kernel
theorem dX5_takeRowEnd_25 : decode cX5_takeRowEnd 25 = .ok (.aload_n 0, 1) := by decide +kernel
theorem dX5_takeRowEnd_26 : decode cX5_takeRowEnd 26 = .ok (.getfield 21, 3) := by decide +kernel
theorem dX5_takeRowEnd_29 : decode cX5_takeRowEnd 29 = .ok (.putfield 15, 3) := by decide +kernel
theorem dX5_takeRowEnd_32 : decode cX5_takeRowEnd 32 = .ok (.aload_n 0, 1) := by decide +kernel
theorem dX5_takeRowEnd_33 : decode cX5_takeRowEnd 33 = .ok (.getfield 21, 3) := by decide +kernel
theorem dX5_takeRowEnd_36 : decode cX5_takeRowEnd 36 = .ok (.aload_n 0, 1) := by decide +kernel
theorem dX5_takeRowEnd_37 : decode cX5_takeRowEnd 37 = .ok (.getfield 15, 3) := by decide +kernel
theorem dX5_takeRowEnd_40 : decode cX5_takeRowEnd 40 = .ok (.if_icmp .ge 5, 3) := by decide +kernel
theorem dX5_takeRowEnd_43 : decode cX5_takeRowEnd 43 = .ok (.iconst 2, 1) := by decide +kernel
theorem dX5_takeRowEnd_44 : decode cX5_takeRowEnd 44 = .ok (.ireturn, 1) := by decide +kernel
theorem dX5_takeRowEnd_45 : decode cX5_takeRowEnd 45 = .ok (.aload_n 0, 1) := by decide +kernel
theorem dX5_takeRowEnd_46 : decode cX5_takeRowEnd 46 = .ok (.dup, 1) := by decide +kernel
theorem dX5_takeRowEnd_47 : decode cX5_takeRowEnd 47 = .ok (.getfield 18, 3) := by decide +kernel
theorem dX5_takeRowEnd_50 : decode cX5_takeRowEnd 50 = .ok (.iconst 1, 1) := by decide +kernel
theorem dX5_takeRowEnd_51 : decode cX5_takeRowEnd 51 = .ok (.iadd, 1) := by decide +kernel
theorem dX5_takeRowEnd_52 : decode cX5_takeRowEnd 52 = .ok (.putfield 18, 3) := by decide +kernel
theorem dX5_takeRowEnd_55 : decode cX5_takeRowEnd 55 = .ok (.aload_n 0, 1) := by decide +kernel
theorem dX5_takeRowEnd_56 : decode cX5_takeRowEnd 56 = .ok (.iconst 0, 1) := by decide +kernel
theorem dX5_takeRowEnd_57 : decode cX5_takeRowEnd 57 = .ok (.putfield 21, 3) := by decide +kernel
theorem dX5_takeRowEnd_60 : decode cX5_takeRowEnd 60 = .ok (.iload_n 1, 1) := by decide +kernel
theorem dX5_takeRowEnd_61 : decode cX5_takeRowEnd 61 = .ok (.ifCond .eq 20, 3) := by decide +kernel
theorem dX5_takeRowEnd_64 : decode cX5_takeRowEnd 64 = .ok (.aload_n 0, 1) := by decide +kernel
theorem dX5_takeRowEnd_65 : decode cX5_takeRowEnd 65 = .ok (.getfield 27, 3) := by decide +kernel
theorem dX5_takeRowEnd_68 : decode cX5_takeRowEnd 68 = .ok (.aload_n 0, 1) := by decide +kernel
theorem dX5_takeRowEnd_69 : decode cX5_takeRowEnd 69 = .ok (.getfield 15, 3) := by decide +kernel
theorem dX5_takeRowEnd_72 : decode cX5_takeRowEnd 72 = .ok (.aload_n 0, 1) := by decide +kernel
theorem dX5_takeRowEnd_73 : decode cX5_takeRowEnd 73 = .ok (.getfield 18, 3) := by decide +kernel
theorem dX5_takeRowEnd_76 : decode cX5_takeRowEnd 76 = .ok (.invokevirtual 45, 3) := by decide +kernel
theorem dX5_takeRowEnd_79 : decode cX5_takeRowEnd 79 = .ok (.iconst 0, 1) := by decide +kernel
theorem dX5_takeRowEnd_80 : decode cX5_takeRowEnd 80 = .ok (.ireturn, 1) := by decide +kernel
theorem dX5_takeRowEnd_81 : decode cX5_takeRowEnd 81 = .ok (.aload_n 0, 1) := by decide +kernel
theorem dX5_takeRowEnd_82 : decode cX5_takeRowEnd 82 = .ok (.getfield 18, 3) := by decide +kernel
theorem dX5_takeRowEnd_85 : decode cX5_takeRowEnd 85 = .ok (.bipush 8, 2) := by decide +kernel
theorem dX5_takeRowEnd_87 : decode cX5_takeRowEnd 87 = .ok (.if_icmp .ge 7, 3) := by decide +kernel
theorem dX5_takeRowEnd_90 : decode cX5_takeRowEnd 90 = .ok (.iconst 0, 1) := by decide +kernel
theorem dX5_takeRowEnd_91 : decode cX5_takeRowEnd 91 = .ok (.goto 4, 3) := by decide +kernel
theorem dX5_takeRowEnd_94 : decode cX5_takeRowEnd 94 = .ok (.iconst 3, 1) := by decide +kernel
theorem dX5_takeRowEnd_95 : decode cX5_takeRowEnd 95 = .ok (.ireturn, 1) := by decide +kernel
theorem dX5_takeFirstSign_0 : decode cX5_takeFirstSign 0 = .ok (.aload_n 0, 1) := by decide +kernel
theorem dX5_takeFirstSign_1 : decode cX5_takeFirstSign 1 = .ok (.getfield 21, 3) := by decide +kernel
theorem dX5_takeFirstSign_4 : decode cX5_takeFirstSign 4 = .ok (.aload_n 0, 1) := by decide +kernel
theorem dX5_takeFirstSign_5 : decode cX5_takeFirstSign 5 = .ok (.getfield 15, 3) := by decide +kernel
theorem dX5_takeFirstSign_8 : decode cX5_takeFirstSign 8 = .ok (.if_icmp .lt 5, 3) := by decide +kernel
theorem dX5_takeFirstSign_11 : decode cX5_takeFirstSign 11 = .ok (.iconst 2, 1) := by decide +kernel
theorem dX5_takeFirstSign_12 : decode cX5_takeFirstSign 12 = .ok (.ireturn, 1) := by decide +kernel
theorem dX5_takeFirstSign_13 : decode cX5_takeFirstSign 13 = .ok (.aload_n 0, 1) := by decide +kernel
theorem dX5_takeFirstSign_14 : decode cX5_takeFirstSign 14 = .ok (.iload_n 1, 1) := by decide +kernel
theorem dX5_takeFirstSign_15 : decode cX5_takeFirstSign 15 = .ok (.putfield 24, 3) := by decide +kernel
theorem dX5_takeFirstSign_18 : decode cX5_takeFirstSign 18 = .ok (.iconst 0, 1) := by decide +kernel
theorem dX5_takeFirstSign_19 : decode cX5_takeFirstSign 19 = .ok (.ireturn, 1) := by decide +kernel
theorem dX5_takeSecondSign_0 : decode cX5_takeSecondSign 0 = .ok (.aload_n 0, 1) := by decide +kernel
theorem dX5_takeSecondSign_1 : decode cX5_takeSecondSign 1 = .ok (.getfield 24, 3) := by decide +kernel
theorem dX5_takeSecondSign_4 : decode cX5_takeSecondSign 4 = .ok (.bipush 16, 2) := by decide +kernel
theorem dX5_takeSecondSign_6 : decode cX5_takeSecondSign 6 = .ok (.if_icmp .ne 7, 3) := by decide +kernel
theorem dX5_takeSecondSign_9 : decode cX5_takeSecondSign 9 = .ok (.iconst 1, 1) := by decide +kernel
theorem dX5_takeSecondSign_10 : decode cX5_takeSecondSign 10 = .ok (.goto 4, 3) := by decide +kernel
theorem dX5_takeSecondSign_13 : decode cX5_takeSecondSign 13 = .ok (.iconst 0, 1) := by decide +kernel
theorem dX5_takeSecondSign_14 : decode cX5_takeSecondSign 14 = .ok (.istore_n 2, 1) := by decide +kernel
theorem dX5_takeSecondSign_15 : decode cX5_takeSecondSign 15 = .ok (.iload_n 2, 1) := by decide +kernel
theorem dX5_takeSecondSign_16 : decode cX5_takeSecondSign 16 = .ok (.iload_n 1, 1) := by decide +kernel
theorem dX5_takeSecondSign_17 : decode cX5_takeSecondSign 17 = .ok (.bipush 16, 2) := by decide +kernel
theorem dX5_takeSecondSign_19 : decode cX5_takeSecondSign 19 = .ok (.if_icmp .ne 7, 3) := by decide +kernel
theorem dX5_takeSecondSign_22 : decode cX5_takeSecondSign 22 = .ok (.iconst 1, 1) := by decide +kernel
theorem dX5_takeSecondSign_23 : decode cX5_takeSecondSign 23 = .ok (.goto 4, 3) := by decide +kernel
theorem dX5_takeSecondSign_26 : decode cX5_takeSecondSign 26 = .ok (.iconst 0, 1) := by decide +kernel
theorem dX5_takeSecondSign_27 : decode cX5_takeSecondSign 27 = .ok (.if_icmp .eq 5, 3) := by decide +kernel
theorem dX5_takeSecondSign_30 : decode cX5_takeSecondSign 30 = .ok (.iconst 1, 1) := by decide +kernel
theorem dX5_takeSecondSign_31 : decode cX5_takeSecondSign 31 = .ok (.ireturn, 1) := by decide +kernel
theorem dX5_takeSecondSign_32 : decode cX5_takeSecondSign 32 = .ok (.aload_n 0, 1) := by decide +kernel
theorem dX5_takeSecondSign_33 : decode cX5_takeSecondSign 33 = .ok (.getfield 27, 3) := by decide +kernel
theorem dX5_takeSecondSign_36 : decode cX5_takeSecondSign 36 = .ok (.aload_n 0, 1) := by decide +kernel
theorem dX5_takeSecondSign_37 : decode cX5_takeSecondSign 37 = .ok (.getfield 9, 3) := by decide +kernel
theorem dX5_takeSecondSign_40 : decode cX5_takeSecondSign 40 = .ok (.iload_n 2, 1) := by decide +kernel
theorem dX5_takeSecondSign_41 : decode cX5_takeSecondSign 41 = .ok (.ifCond .eq 7, 3) := by decide +kernel
theorem dX5_takeSecondSign_44 : decode cX5_takeSecondSign 44 = .ok (.iconst 0, 1) := by decide +kernel
theorem dX5_takeSecondSign_45 : decode cX5_takeSecondSign 45 = .ok (.goto 12, 3) := by decide +kernel
theorem dX5_takeSecondSign_48 : decode cX5_takeSecondSign 48 = .ok (.aload_n 0, 1) := by decide +kernel
theorem dX5_takeSecondSign_49 : decode cX5_takeSecondSign 49 = .ok (.getfield 24, 3) := by decide +kernel
theorem dX5_takeSecondSign_52 : decode cX5_takeSecondSign 52 = .ok (.bipush 16, 2) := by decide +kernel
theorem dX5_takeSecondSign_54 : decode cX5_takeSecondSign 54 = .ok (.imul, 1) := by decide +kernel
theorem dX5_takeSecondSign_55 : decode cX5_takeSecondSign 55 = .ok (.iload_n 1, 1) := by decide +kernel
theorem dX5_takeSecondSign_56 : decode cX5_takeSecondSign 56 = .ok (.iadd, 1) := by decide +kernel
theorem dX5_takeSecondSign_57 : decode cX5_takeSecondSign 57 = .ok (.iload_n 2, 1) := by decide +kernel
theorem dX5_takeSecondSign_58 : decode cX5_takeSecondSign 58 = .ok (.invokevirtual 51, 3) := by decide +kernel
theorem dX5_takeSecondSign_61 : decode cX5_takeSecondSign 61 = .ok (.aload_n 0, 1) := by decide +kernel
theorem dX5_takeSecondSign_62 : decode cX5_takeSecondSign 62 = .ok (.dup, 1) := by decide +kernel
theorem dX5_takeSecondSign_63 : decode cX5_takeSecondSign 63 = .ok (.getfield 9, 3) := by decide +kernel
theorem dX5_takeSecondSign_66 : decode cX5_takeSecondSign 66 = .ok (.iconst 1, 1) := by decide +kernel
theorem dX5_takeSecondSign_67 : decode cX5_takeSecondSign 67 = .ok (.iadd, 1) := by decide +kernel
theorem dX5_takeSecondSign_68 : decode cX5_takeSecondSign 68 = .ok (.putfield 9, 3) := by decide +kernel
theorem dX5_takeSecondSign_71 : decode cX5_takeSecondSign 71 = .ok (.aload_n 0, 1) := by decide +kernel
theorem dX5_takeSecondSign_72 : decode cX5_takeSecondSign 72 = .ok (.dup, 1) := by decide +kernel
theorem dX5_takeSecondSign_73 : decode cX5_takeSecondSign 73 = .ok (.getfield 21, 3) := by decide +kernel
theorem dX5_takeSecondSign_76 : decode cX5_takeSecondSign 76 = .ok (.iconst 1, 1) := by decide +kernel
theorem dX5_takeSecondSign_77 : decode cX5_takeSecondSign 77 = .ok (.iadd, 1) := by decide +kernel
theorem dX5_takeSecondSign_78 : decode cX5_takeSecondSign 78 = .ok (.putfield 21, 3) := by decide +kernel
theorem dX5_takeSecondSign_81 : decode cX5_takeSecondSign 81 = .ok (.aload_n 0, 1) := by decide +kernel
theorem dX5_takeSecondSign_82 : decode cX5_takeSecondSign 82 = .ok (.iconst (-1), 1) := by decide +kernel
theorem dX5_takeSecondSign_83 : decode cX5_takeSecondSign 83 = .ok (.putfield 24, 3) := by decide +kernel
theorem dX5_takeSecondSign_86 : decode cX5_takeSecondSign 86 = .ok (.iconst 0, 1) := by decide +kernel
theorem dX5_takeSecondSign_87 : decode cX5_takeSecondSign 87 = .ok (.ireturn, 1) := by decide +kernel
theorem dX5_signOf_0 : decode cX5_signOf 0 = .ok (.iload_n 0, 1) := by decide +kernel
theorem dX5_signOf_1 : decode cX5_signOf 1 = .ok (.bipush 48, 2) := by decide +kernel
theorem dX5_signOf_3 : decode cX5_signOf 3 = .ok (.bipush 57, 2) := by decide +kernel
theorem dX5_signOf_5 : decode cX5_signOf 5 = .ok (.invokestatic 55, 3) := by decide +kernel
theorem dX5_signOf_8 : decode cX5_signOf 8 = .ok (.ifCond .eq 8, 3) := by decide +kernel
theorem dX5_signOf_11 : decode cX5_signOf 11 = .ok (.iload_n 0, 1) := by decide +kernel
theorem dX5_signOf_12 : decode cX5_signOf 12 = .ok (.bipush 48, 2) := by decide +kernel
theorem dX5_signOf_14 : decode cX5_signOf 14 = .ok (.isub, 1) := by decide +kernel
theorem dX5_signOf_15 : decode cX5_signOf 15 = .ok (.ireturn, 1) := by decide +kernel
theorem dX5_signOf_16 : decode cX5_signOf 16 = .ok (.iload_n 0, 1) := by decide +kernel
theorem dX5_signOf_17 : decode cX5_signOf 17 = .ok (.bipush 97, 2) := by decide +kernel
theorem dX5_signOf_19 : decode cX5_signOf 19 = .ok (.bipush 102, 2) := by decide +kernel
theorem dX5_signOf_21 : decode cX5_signOf 21 = .ok (.invokestatic 55, 3) := by decide +kernel
theorem dX5_signOf_24 : decode cX5_signOf 24 = .ok (.ifCond .eq 11, 3) := by decide +kernel
theorem dX5_signOf_27 : decode cX5_signOf 27 = .ok (.iload_n 0, 1) := by decide +kernel
theorem dX5_signOf_28 : decode cX5_signOf 28 = .ok (.bipush 97, 2) := by decide +kernel
theorem dX5_signOf_30 : decode cX5_signOf 30 = .ok (.isub, 1) := by decide +kernel
theorem dX5_signOf_31 : decode cX5_signOf 31 = .ok (.bipush 10, 2) := by decide +kernel
theorem dX5_signOf_33 : decode cX5_signOf 33 = .ok (.iadd, 1) := by decide +kernel
theorem dX5_signOf_34 : decode cX5_signOf 34 = .ok (.ireturn, 1) := by decide +kernel
theorem dX5_signOf_35 : decode cX5_signOf 35 = .ok (.iload_n 0, 1) := by decide +kernel
theorem dX5_signOf_36 : decode cX5_signOf 36 = .ok (.bipush 45, 2) := by decide +kernel
theorem dX5_signOf_38 : decode cX5_signOf 38 = .ok (.if_icmp .ne 8, 3) := by decide +kernel
theorem dX5_signOf_41 : decode cX5_signOf 41 = .ok (.bipush 16, 2) := by decide +kernel
theorem dX5_signOf_43 : decode cX5_signOf 43 = .ok (.goto 4, 3) := by decide +kernel
theorem dX5_signOf_46 : decode cX5_signOf 46 = .ok (.iconst (-1), 1) := by decide +kernel
theorem dX5_signOf_47 : decode cX5_signOf 47 = .ok (.ireturn, 1) := by decide +kernel
theorem dX6_init_0 : decode cX6_init 0 = .ok (.aload_n 0, 1) := by decide +kernel
theorem dX6_init_1 : decode cX6_init 1 = .ok (.invokespecial 3, 3) := by decide +kernel
theorem dX6_init_4 : decode cX6_init 4 = .ok (.aload_n 0, 1) := by decide +kernel
theorem dX6_init_5 : decode cX6_init 5 = .ok (.new 9, 3) := by decide +kernel
theorem dX6_init_8 : decode cX6_init 8 = .ok (.dup, 1) := by decide +kernel
theorem dX6_init_9 : decode cX6_init 9 = .ok (.invokespecial 11, 3) := by decide +kernel
theorem dX6_init_12 : decode cX6_init 12 = .ok (.putfield 12, 3) := by decide +kernel
theorem dX6_init_15 : decode cX6_init 15 = .ok (.aload_n 0, 1) := by decide +kernel
theorem dX6_init_16 : decode cX6_init 16 = .ok (.new 18, 3) := by decide +kernel
theorem dX6_init_19 : decode cX6_init 19 = .ok (.dup, 1) := by decide +kernel
theorem dX6_init_20 : decode cX6_init 20 = .ok (.invokespecial 20, 3) := by decide +kernel
theorem dX6_init_23 : decode cX6_init 23 = .ok (.putfield 21, 3) := by decide +kernel
theorem dX6_init_26 : decode cX6_init 26 = .ok (.aload_n 0, 1) := by decide +kernel
theorem dX6_init_27 : decode cX6_init 27 = .ok (.iconst 0, 1) := by decide +kernel
theorem dX6_init_28 : decode cX6_init 28 = .ok (.putfield 25, 3) := by decide +kernel
theorem dX6_init_31 : decode cX6_init 31 = .ok (.aload_n 0, 1) := by decide +kernel
theorem dX6_init_32 : decode cX6_init 32 = .ok (.iconst 0, 1) := by decide +kernel
theorem dX6_init_33 : decode cX6_init 33 = .ok (.putfield 29, 3) := by decide +kernel
theorem dX6_init_36 : decode cX6_init 36 = .ok (.return_, 1) := by decide +kernel
theorem dX6_become_0 : decode cX6_become 0 = .ok (.aload_n 0, 1) := by decide +kernel
theorem dX6_become_1 : decode cX6_become 1 = .ok (.getfield 12, 3) := by decide +kernel
theorem dX6_become_4 : decode cX6_become 4 = .ok (.aload_n 1, 1) := by decide +kernel
theorem dX6_become_5 : decode cX6_become 5 = .ok (.getfield 12, 3) := by decide +kernel
theorem dX6_become_8 : decode cX6_become 8 = .ok (.invokevirtual 32, 3) := by decide +kernel
theorem dX6_become_11 : decode cX6_become 11 = .ok (.aload_n 0, 1) := by decide +kernel
theorem dX6_become_12 : decode cX6_become 12 = .ok (.getfield 21, 3) := by decide +kernel
theorem dX6_become_15 : decode cX6_become 15 = .ok (.aload_n 1, 1) := by decide +kernel
theorem dX6_become_16 : decode cX6_become 16 = .ok (.getfield 21, 3) := by decide +kernel
theorem dX6_become_19 : decode cX6_become 19 = .ok (.invokevirtual 36, 3) := by decide +kernel
theorem dX6_become_22 : decode cX6_become 22 = .ok (.aload_n 0, 1) := by decide +kernel
theorem dX6_become_23 : decode cX6_become 23 = .ok (.aload_n 1, 1) := by decide +kernel
theorem dX6_become_24 : decode cX6_become 24 = .ok (.getfield 25, 3) := by decide +kernel
theorem dX6_become_27 : decode cX6_become 27 = .ok (.putfield 25, 3) := by decide +kernel
theorem dX6_become_30 : decode cX6_become 30 = .ok (.aload_n 0, 1) := by decide +kernel
theorem dX6_become_31 : decode cX6_become 31 = .ok (.aload_n 1, 1) := by decide +kernel
theorem dX6_become_32 : decode cX6_become 32 = .ok (.getfield 29, 3) := by decide +kernel
theorem dX6_become_35 : decode cX6_become 35 = .ok (.putfield 29, 3) := by decide +kernel
theorem dX6_become_38 : decode cX6_become 38 = .ok (.return_, 1) := by decide +kernel
theorem dX6_speckle_0 : decode cX6_speckle 0 = .ok (.aload_n 0, 1) := by decide +kernel
theorem dX6_speckle_1 : decode cX6_speckle 1 = .ok (.aload_n 0, 1) := by decide +kernel
theorem dX6_speckle_2 : decode cX6_speckle 2 = .ok (.getfield 12, 3) := by decide +kernel
theorem dX6_speckle_5 : decode cX6_speckle 5 = .ok (.getfield 39, 3) := by decide +kernel
theorem dX6_speckle_8 : decode cX6_speckle 8 = .ok (.invokevirtual 42, 3) := by decide +kernel
theorem dX6_speckle_11 : decode cX6_speckle 11 = .ok (.istore_n 1, 1) := by decide +kernel
theorem dX6_speckle_12 : decode cX6_speckle 12 = .ok (.aload_n 0, 1) := by decide +kernel
theorem dX6_speckle_13 : decode cX6_speckle 13 = .ok (.aload_n 0, 1) := by decide +kernel
theorem dX6_speckle_14 : decode cX6_speckle 14 = .ok (.getfield 12, 3) := by decide +kernel
theorem dX6_speckle_17 : decode cX6_speckle 17 = .ok (.getfield 46, 3) := by decide +kernel
theorem dX6_speckle_20 : decode cX6_speckle 20 = .ok (.invokevirtual 42, 3) := by decide +kernel
theorem dX6_speckle_23 : decode cX6_speckle 23 = .ok (.istore_n 2, 1) := by decide +kernel
theorem dX6_speckle_24 : decode cX6_speckle 24 = .ok (.aload_n 0, 1) := by decide +kernel
theorem dX6_speckle_25 : decode cX6_speckle 25 = .ok (.iconst 3, 1) := by decide +kernel
theorem dX6_speckle_26 : decode cX6_speckle 26 = .ok (.invokevirtual 42, 3) := by decide +kernel
theorem dX6_speckle_29 : decode cX6_speckle 29 = .ok (.istore_n 3, 1) := by decide +kernel
theorem dX6_speckle_30 : decode cX6_speckle 30 = .ok (.iload_n 3, 1) := by decide +kernel
theorem dX6_speckle_31 : decode cX6_speckle 31 = .ok (.ifCond .ne 7, 3) := by decide +kernel
theorem dX6_speckle_34 : decode cX6_speckle 34 = .ok (.iconst 0, 1) := by decide +kernel
theorem dX6_speckle_35 : decode cX6_speckle 35 = .ok (.goto 21, 3) := by decide +kernel
theorem dX6_speckle_38 : decode cX6_speckle 38 = .ok (.iload_n 3, 1) := by decide +kernel
theorem dX6_speckle_39 : decode cX6_speckle 39 = .ok (.iconst 1, 1) := by decide +kernel
theorem dX6_speckle_40 : decode cX6_speckle 40 = .ok (.if_icmp .ne 9, 3) := by decide +kernel
theorem dX6_speckle_43 : decode cX6_speckle 43 = .ok (.sipush 255, 3) := by decide +kernel
theorem dX6_speckle_46 : decode cX6_speckle 46 = .ok (.goto 10, 3) := by decide +kernel
theorem dX6_speckle_49 : decode cX6_speckle 49 = .ok (.aload_n 0, 1) := by decide +kernel
theorem dX6_speckle_50 : decode cX6_speckle 50 = .ok (.sipush 256, 3) := by decide +kernel
theorem dX6_speckle_53 : decode cX6_speckle 53 = .ok (.invokevirtual 42, 3) := by decide +kernel
theorem dX6_speckle_56 : decode cX6_speckle 56 = .ok (.istore 4, 2) := by decide +kernel
theorem dX6_speckle_58 : decode cX6_speckle 58 = .ok (.aload_n 0, 1) := by decide +kernel
theorem dX6_speckle_59 : decode cX6_speckle 59 = .ok (.getfield 12, 3) := by decide +kernel
theorem dX6_speckle_62 : decode cX6_speckle 62 = .ok (.iload_n 1, 1) := by decide +kernel
theorem dX6_speckle_63 : decode cX6_speckle 63 = .ok (.iload_n 2, 1) := by decide +kernel
theorem dX6_speckle_64 : decode cX6_speckle 64 = .ok (.iload 4, 2) := by decide +kernel
theorem dX6_speckle_66 : decode cX6_speckle 66 = .ok (.invokevirtual 49, 3) := by decide +kernel
theorem dX6_speckle_69 : decode cX6_speckle 69 = .ok (.return_, 1) := by decide +kernel
theorem dX6_draw_0 : decode cX6_draw 0 = .ok (.aload_n 0, 1) := by decide +kernel
theorem dX6_draw_1 : decode cX6_draw 1 = .ok (.aload_n 0, 1) := by decide +kernel
theorem dX6_draw_2 : decode cX6_draw 2 = .ok (.getfield 29, 3) := by decide +kernel
theorem dX6_draw_5 : decode cX6_draw 5 = .ok (.i2l, 1) := by decide +kernel
theorem dX6_draw_6 : decode cX6_draw 6 = .ok (.ldc2_w 53, 3) := by decide +kernel
theorem dX6_draw_9 : decode cX6_draw 9 = .ok (.lmul, 1) := by decide +kernel
theorem dX6_draw_10 : decode cX6_draw 10 = .ok (.ldc2_w 55, 3) := by decide +kernel
theorem dX6_draw_13 : decode cX6_draw 13 = .ok (.ladd, 1) := by decide +kernel
theorem dX6_draw_14 : decode cX6_draw 14 = .ok (.ldc2_w 57, 3) := by decide +kernel
theorem dX6_draw_17 : decode cX6_draw 17 = .ok (.lrem, 1) := by decide +kernel
theorem dX6_draw_18 : decode cX6_draw 18 = .ok (.l2i, 1) := by decide +kernel
theorem dX6_draw_19 : decode cX6_draw 19 = .ok (.putfield 29, 3) := by decide +kernel
theorem dX6_draw_22 : decode cX6_draw 22 = .ok (.iload_n 1, 1) := by decide +kernel
theorem dX6_draw_23 : decode cX6_draw 23 = .ok (.ifCond .le 15, 3) := by decide +kernel
theorem dX6_draw_26 : decode cX6_draw 26 = .ok (.aload_n 0, 1) := by decide +kernel
theorem dX6_draw_27 : decode cX6_draw 27 = .ok (.getfield 29, 3) := by decide +kernel
theorem dX6_draw_30 : decode cX6_draw 30 = .ok (.ldc 59, 2) := by decide +kernel
theorem dX6_draw_32 : decode cX6_draw 32 = .ok (.idiv, 1) := by decide +kernel
theorem dX6_draw_33 : decode cX6_draw 33 = .ok (.iload_n 1, 1) := by decide +kernel
theorem dX6_draw_34 : decode cX6_draw 34 = .ok (.irem, 1) := by decide +kernel
theorem dX6_draw_35 : decode cX6_draw 35 = .ok (.goto 4, 3) := by decide +kernel
theorem dX6_draw_38 : decode cX6_draw 38 = .ok (.iconst 0, 1) := by decide +kernel
theorem dX6_draw_39 : decode cX6_draw 39 = .ok (.ireturn, 1) := by decide +kernel
theorem dX7_init_0 : decode cX7_init 0 = .ok (.aload_n 0, 1) := by decide +kernel
theorem dX7_init_1 : decode cX7_init 1 = .ok (.invokespecial 3, 3) := by decide +kernel
theorem dX7_init_4 : decode cX7_init 4 = .ok (.aload_n 0, 1) := by decide +kernel
theorem dX7_init_5 : decode cX7_init 5 = .ok (.iconst 0, 1) := by decide +kernel
theorem dX7_init_6 : decode cX7_init 6 = .ok (.putfield 9, 3) := by decide +kernel
theorem dX7_init_9 : decode cX7_init 9 = .ok (.aload_n 0, 1) := by decide +kernel
theorem dX7_init_10 : decode cX7_init 10 = .ok (.sipush 180, 3) := by decide +kernel
theorem dX7_init_13 : decode cX7_init 13 = .ok (.newarray .int, 2) := by decide +kernel
theorem dX7_init_15 : decode cX7_init 15 = .ok (.putfield 15, 3) := by decide +kernel
theorem dX7_init_18 : decode cX7_init 18 = .ok (.aload_n 0, 1) := by decide +kernel
theorem dX7_init_19 : decode cX7_init 19 = .ok (.iconst 0, 1) := by decide +kernel
theorem dX7_init_20 : decode cX7_init 20 = .ok (.putfield 19, 3) := by decide +kernel
theorem dX7_init_23 : decode cX7_init 23 = .ok (.return_, 1) := by decide +kernel
theorem dX7_append_0 : decode cX7_append 0 = .ok (.aload_n 0, 1) := by decide +kernel
theorem dX7_append_1 : decode cX7_append 1 = .ok (.getfield 9, 3) := by decide +kernel
theorem dX7_append_4 : decode cX7_append 4 = .ok (.sipush 180, 3) := by decide +kernel
theorem dX7_append_7 : decode cX7_append 7 = .ok (.if_icmp .lt 6, 3) := by decide +kernel
theorem dX7_append_10 : decode cX7_append 10 = .ok (.ldc 22, 2) := by decide +kernel
theorem dX7_append_12 : decode cX7_append 12 = .ok (.ireturn, 1) := by decide +kernel
theorem dX7_append_13 : decode cX7_append 13 = .ok (.aload_n 0, 1) := by decide +kernel
theorem dX7_append_14 : decode cX7_append 14 = .ok (.getfield 15, 3) := by decide +kernel
theorem dX7_append_17 : decode cX7_append 17 = .ok (.aload_n 0, 1) := by decide +kernel
theorem dX7_append_18 : decode cX7_append 18 = .ok (.getfield 9, 3) := by decide +kernel
theorem dX7_append_21 : decode cX7_append 21 = .ok (.iload_n 1, 1) := by decide +kernel
theorem dX7_append_22 : decode cX7_append 22 = .ok (.iastore, 1) := by decide +kernel
theorem dX7_append_23 : decode cX7_append 23 = .ok (.aload_n 0, 1) := by decide +kernel
theorem dX7_append_24 : decode cX7_append 24 = .ok (.dup, 1) := by decide +kernel
theorem dX7_append_25 : decode cX7_append 25 = .ok (.getfield 9, 3) := by decide +kernel
theorem dX7_append_28 : decode cX7_append 28 = .ok (.iconst 1, 1) := by decide +kernel
theorem dX7_append_29 : decode cX7_append 29 = .ok (.iadd, 1) := by decide +kernel
theorem dX7_append_30 : decode cX7_append 30 = .ok (.putfield 9, 3) := by decide +kernel
theorem dX7_append_33 : decode cX7_append 33 = .ok (.aload_n 0, 1) := by decide +kernel
theorem dX7_append_34 : decode cX7_append 34 = .ok (.getfield 9, 3) := by decide +kernel
theorem dX7_append_37 : decode cX7_append 37 = .ok (.ireturn, 1) := by decide +kernel
theorem dX7_clear_0 : decode cX7_clear 0 = .ok (.aload_n 0, 1) := by decide +kernel
theorem dX7_clear_1 : decode cX7_clear 1 = .ok (.iconst 0, 1) := by decide +kernel
theorem dX7_clear_2 : decode cX7_clear 2 = .ok (.putfield 9, 3) := by decide +kernel
theorem dX7_clear_5 : decode cX7_clear 5 = .ok (.return_, 1) := by decide +kernel
theorem dX7_placeRead_0 : decode cX7_placeRead 0 = .ok (.aload_n 0, 1) := by decide +kernel
theorem dX7_placeRead_1 : decode cX7_placeRead 1 = .ok (.getfield 19, 3) := by decide +kernel
theorem dX7_placeRead_4 : decode cX7_placeRead 4 = .ok (.ireturn, 1) := by decide +kernel
theorem dX7_readInto_0 : decode cX7_readInto 0 = .ok (.new 23, 3) := by decide +kernel
theorem dX7_readInto_3 : decode cX7_readInto 3 = .ok (.dup, 1) := by decide +kernel
theorem dX7_readInto_4 : decode cX7_readInto 4 = .ok (.aload_n 1, 1) := by decide +kernel
theorem dX7_readInto_5 : decode cX7_readInto 5 = .ok (.invokespecial 25, 3) := by decide +kernel
theorem dX7_readInto_8 : decode cX7_readInto 8 = .ok (.astore_n 2, 1) := by decide +kernel
theorem dX7_readInto_9 : decode cX7_readInto 9 = .ok (.iconst 0, 1) := by decide +kernel
theorem dX7_readInto_10 : decode cX7_readInto 10 = .ok (.istore_n 3, 1) := by decide +kernel
theorem dX7_readInto_11 : decode cX7_readInto 11 = .ok (.iload_n 3, 1) := by decide +kernel
theorem dX7_readInto_12 : decode cX7_readInto 12 = .ok (.aload_n 0, 1) := by decide +kernel
theorem dX7_readInto_13 : decode cX7_readInto 13 = .ok (.getfield 9, 3) := by decide +kernel
theorem dX7_readInto_16 : decode cX7_readInto 16 = .ok (.if_icmp .ge 34, 3) := by decide +kernel
theorem dX7_readInto_19 : decode cX7_readInto 19 = .ok (.aload_n 0, 1) := by decide +kernel
theorem dX7_readInto_20 : decode cX7_readInto 20 = .ok (.iload_n 3, 1) := by decide +kernel
theorem dX7_readInto_21 : decode cX7_readInto 21 = .ok (.putfield 19, 3) := by decide +kernel
theorem dX7_readInto_24 : decode cX7_readInto 24 = .ok (.aload_n 2, 1) := by decide +kernel
theorem dX7_readInto_25 : decode cX7_readInto 25 = .ok (.aload_n 0, 1) := by decide +kernel
theorem dX7_readInto_26 : decode cX7_readInto 26 = .ok (.getfield 15, 3) := by decide +kernel
theorem dX7_readInto_29 : decode cX7_readInto 29 = .ok (.iload_n 3, 1) := by decide +kernel
theorem dX7_readInto_30 : decode cX7_readInto 30 = .ok (.iaload, 1) := by decide +kernel
theorem dX7_readInto_31 : decode cX7_readInto 31 = .ok (.invokevirtual 28, 3) := by decide +kernel
theorem dX7_readInto_34 : decode cX7_readInto 34 = .ok (.istore 4, 2) := by decide +kernel
theorem dX7_readInto_36 : decode cX7_readInto 36 = .ok (.iload 4, 2) := by decide +kernel
theorem dX7_readInto_38 : decode cX7_readInto 38 = .ok (.ifCond .eq 6, 3) := by decide +kernel
theorem dX7_readInto_41 : decode cX7_readInto 41 = .ok (.iload 4, 2) := by decide +kernel
theorem dX7_readInto_43 : decode cX7_readInto 43 = .ok (.ireturn, 1) := by decide +kernel
theorem dX7_readInto_44 : decode cX7_readInto 44 = .ok (.iinc 3 1, 3) := by decide +kernel
theorem dX7_readInto_47 : decode cX7_readInto 47 = .ok (.goto (-36), 3) := by decide +kernel
theorem dX7_readInto_50 : decode cX7_readInto 50 = .ok (.aload_n 0, 1) := by decide +kernel
theorem dX7_readInto_51 : decode cX7_readInto 51 = .ok (.aload_n 0, 1) := by decide +kernel
theorem dX7_readInto_52 : decode cX7_readInto 52 = .ok (.getfield 9, 3) := by decide +kernel
theorem dX7_readInto_55 : decode cX7_readInto 55 = .ok (.putfield 19, 3) := by decide +kernel
theorem dX7_readInto_58 : decode cX7_readInto 58 = .ok (.aload_n 2, 1) := by decide +kernel
theorem dX7_readInto_59 : decode cX7_readInto 59 = .ok (.iconst 1, 1) := by decide +kernel
theorem dX7_readInto_60 : decode cX7_readInto 60 = .ok (.invokevirtual 32, 3) := by decide +kernel
theorem dX7_readInto_63 : decode cX7_readInto 63 = .ok (.ireturn, 1) := by decide +kernel
theorem dX8_init_0 : decode cX8_init 0 = .ok (.aload_n 0, 1) := by decide +kernel
theorem dX8_init_1 : decode cX8_init 1 = .ok (.invokespecial 3, 3) := by decide +kernel
theorem dX8_init_4 : decode cX8_init 4 = .ok (.aload_n 0, 1) := by decide +kernel
theorem dX8_init_5 : decode cX8_init 5 = .ok (.iconst 0, 1) := by decide +kernel
theorem dX8_init_6 : decode cX8_init 6 = .ok (.putfield 9, 3) := by decide +kernel
theorem dX8_init_9 : decode cX8_init 9 = .ok (.aload_n 0, 1) := by decide +kernel
theorem dX8_init_10 : decode cX8_init 10 = .ok (.bipush 16, 2) := by decide +kernel
theorem dX8_init_12 : decode cX8_init 12 = .ok (.newarray .int, 2) := by decide +kernel
theorem dX8_init_14 : decode cX8_init 14 = .ok (.putfield 15, 3) := by decide +kernel
theorem dX8_init_17 : decode cX8_init 17 = .ok (.aload_n 0, 1) := by decide +kernel
theorem dX8_init_18 : decode cX8_init 18 = .ok (.sipush 256, 3) := by decide +kernel
theorem dX8_init_21 : decode cX8_init 21 = .ok (.newarray .int, 2) := by decide +kernel
theorem dX8_init_23 : decode cX8_init 23 = .ok (.putfield 19, 3) := by decide +kernel
theorem dX8_init_26 : decode cX8_init 26 = .ok (.return_, 1) := by decide +kernel
theorem dX8_lookAt_0 : decode cX8_lookAt 0 = .ok (.aload_n 0, 1) := by decide +kernel
theorem dX8_lookAt_1 : decode cX8_lookAt 1 = .ok (.iconst 0, 1) := by decide +kernel
theorem dX8_lookAt_2 : decode cX8_lookAt 2 = .ok (.putfield 9, 3) := by decide +kernel
theorem dX8_lookAt_5 : decode cX8_lookAt 5 = .ok (.aload_n 0, 1) := by decide +kernel
theorem dX8_lookAt_6 : decode cX8_lookAt 6 = .ok (.getfield 15, 3) := by decide +kernel
theorem dX8_lookAt_9 : decode cX8_lookAt 9 = .ok (.iconst 0, 1) := by decide +kernel
theorem dX8_lookAt_10 : decode cX8_lookAt 10 = .ok (.invokestatic 22, 3) := by decide +kernel
theorem dX8_lookAt_13 : decode cX8_lookAt 13 = .ok (.aload_n 0, 1) := by decide +kernel
theorem dX8_lookAt_14 : decode cX8_lookAt 14 = .ok (.getfield 19, 3) := by decide +kernel
theorem dX8_lookAt_17 : decode cX8_lookAt 17 = .ok (.iconst 0, 1) := by decide +kernel
theorem dX8_lookAt_18 : decode cX8_lookAt 18 = .ok (.invokestatic 22, 3) := by decide +kernel
theorem dX8_lookAt_21 : decode cX8_lookAt 21 = .ok (.iload 5, 2) := by decide +kernel
theorem dX8_lookAt_23 : decode cX8_lookAt 23 = .ok (.aload_n 2, 1) := by decide +kernel
theorem dX8_lookAt_24 : decode cX8_lookAt 24 = .ok (.getfield 28, 3) := by decide +kernel
theorem dX8_lookAt_27 : decode cX8_lookAt 27 = .ok (.isub, 1) := by decide +kernel
theorem dX8_lookAt_28 : decode cX8_lookAt 28 = .ok (.istore 6, 2) := by decide +kernel
theorem dX8_lookAt_30 : decode cX8_lookAt 30 = .ok (.iload 6, 2) := by decide +kernel
theorem dX8_lookAt_32 : decode cX8_lookAt 32 = .ok (.iload 5, 2) := by decide +kernel
theorem dX8_lookAt_34 : decode cX8_lookAt 34 = .ok (.aload_n 2, 1) := by decide +kernel
theorem dX8_lookAt_35 : decode cX8_lookAt 35 = .ok (.getfield 28, 3) := by decide +kernel
theorem dX8_lookAt_38 : decode cX8_lookAt 38 = .ok (.iadd, 1) := by decide +kernel
theorem dX8_lookAt_39 : decode cX8_lookAt 39 = .ok (.if_icmp .gt 31, 3) := by decide +kernel
theorem dX8_lookAt_42 : decode cX8_lookAt 42 = .ok (.aload_n 0, 1) := by decide +kernel
theorem dX8_lookAt_43 : decode cX8_lookAt 43 = .ok (.aload_n 1, 1) := by decide +kernel
theorem dX8_lookAt_44 : decode cX8_lookAt 44 = .ok (.aload_n 2, 1) := by decide +kernel
theorem dX8_lookAt_45 : decode cX8_lookAt 45 = .ok (.iload_n 3, 1) := by decide +kernel
theorem dX8_lookAt_46 : decode cX8_lookAt 46 = .ok (.iload 4, 2) := by decide +kernel
theorem dX8_lookAt_48 : decode cX8_lookAt 48 = .ok (.iload 6, 2) := by decide +kernel
theorem dX8_lookAt_50 : decode cX8_lookAt 50 = .ok (.aload_n 1, 1) := by decide +kernel
theorem dX8_lookAt_51 : decode cX8_lookAt 51 = .ok (.getfield 33, 3) := by decide +kernel
theorem dX8_lookAt_54 : decode cX8_lookAt 54 = .ok (.aload_n 2, 1) := by decide +kernel
theorem dX8_lookAt_55 : decode cX8_lookAt 55 = .ok (.getfield 38, 3) := by decide +kernel
theorem dX8_lookAt_58 : decode cX8_lookAt 58 = .ok (.invokestatic 41, 3) := by decide +kernel
theorem dX8_lookAt_61 : decode cX8_lookAt 61 = .ok (.invokevirtual 45, 3) := by decide +kernel
theorem dX8_lookAt_64 : decode cX8_lookAt 64 = .ok (.iinc 6 1, 3) := by decide +kernel
theorem dX8_lookAt_67 : decode cX8_lookAt 67 = .ok (.goto (-37), 3) := by decide +kernel
theorem dX8_lookAt_70 : decode cX8_lookAt 70 = .ok (.aload_n 1, 1) := by decide +kernel
theorem dX8_lookAt_71 : decode cX8_lookAt 71 = .ok (.iload 4, 2) := by decide +kernel
theorem dX8_lookAt_73 : decode cX8_lookAt 73 = .ok (.iload 5, 2) := by decide +kernel
theorem dX8_lookAt_75 : decode cX8_lookAt 75 = .ok (.invokevirtual 49, 3) := by decide +kernel
theorem dX8_lookAt_78 : decode cX8_lookAt 78 = .ok (.ifCond .ne 21, 3) := by decide +kernel
theorem dX8_lookAt_81 : decode cX8_lookAt 81 = .ok (.aload_n 0, 1) := by decide +kernel
theorem dX8_lookAt_82 : decode cX8_lookAt 82 = .ok (.aload_n 1, 1) := by decide +kernel
theorem dX8_lookAt_83 : decode cX8_lookAt 83 = .ok (.iload 4, 2) := by decide +kernel
theorem dX8_lookAt_85 : decode cX8_lookAt 85 = .ok (.iload 5, 2) := by decide +kernel
theorem dX8_lookAt_87 : decode cX8_lookAt 87 = .ok (.invokevirtual 53, 3) := by decide +kernel
theorem dX8_lookAt_90 : decode cX8_lookAt 90 = .ok (.aload_n 2, 1) := by decide +kernel
theorem dX8_lookAt_91 : decode cX8_lookAt 91 = .ok (.getfield 57, 3) := by decide +kernel
theorem dX8_lookAt_94 : decode cX8_lookAt 94 = .ok (.iconst 1, 1) := by decide +kernel
theorem dX8_lookAt_95 : decode cX8_lookAt 95 = .ok (.isub, 1) := by decide +kernel
theorem dX8_lookAt_96 : decode cX8_lookAt 96 = .ok (.invokevirtual 60, 3) := by decide +kernel
theorem dX8_lookAt_99 : decode cX8_lookAt 99 = .ok (.return_, 1) := by decide +kernel
theorem dX8_ranked_0 : decode cX8_ranked 0 = .ok (.aload_n 0, 1) := by decide +kernel
theorem dX8_ranked_1 : decode cX8_ranked 1 = .ok (.getfield 9, 3) := by decide +kernel
theorem dX8_ranked_4 : decode cX8_ranked 4 = .ok (.ifCond .ne 5, 3) := by decide +kernel
theorem dX8_ranked_7 : decode cX8_ranked 7 = .ok (.iconst (-1), 1) := by decide +kernel
theorem dX8_ranked_8 : decode cX8_ranked 8 = .ok (.ireturn, 1) := by decide +kernel
theorem dX8_ranked_9 : decode cX8_ranked 9 = .ok (.iload_n 1, 1) := by decide +kernel
theorem dX8_ranked_10 : decode cX8_ranked 10 = .ok (.aload_n 0, 1) := by decide +kernel
theorem dX8_ranked_11 : decode cX8_ranked 11 = .ok (.getfield 9, 3) := by decide +kernel
theorem dX8_ranked_14 : decode cX8_ranked 14 = .ok (.iconst 1, 1) := by decide +kernel
theorem dX8_ranked_15 : decode cX8_ranked 15 = .ok (.isub, 1) := by decide +kernel
theorem dX8_ranked_16 : decode cX8_ranked 16 = .ok (.imul, 1) := by decide +kernel
theorem dX8_ranked_17 : decode cX8_ranked 17 = .ok (.bipush 100, 2) := by decide +kernel
theorem dX8_ranked_19 : decode cX8_ranked 19 = .ok (.idiv, 1) := by decide +kernel
theorem dX8_ranked_20 : decode cX8_ranked 20 = .ok (.istore_n 2, 1) := by decide +kernel
theorem dX8_ranked_21 : decode cX8_ranked 21 = .ok (.iconst 0, 1) := by decide +kernel
theorem dX8_ranked_22 : decode cX8_ranked 22 = .ok (.istore_n 3, 1) := by decide +kernel
theorem dX8_ranked_23 : decode cX8_ranked 23 = .ok (.iload_n 3, 1) := by decide +kernel
theorem dX8_ranked_24 : decode cX8_ranked 24 = .ok (.bipush 15, 2) := by decide +kernel
theorem dX8_ranked_26 : decode cX8_ranked 26 = .ok (.if_icmp .ge 28, 3) := by decide +kernel
theorem dX8_ranked_29 : decode cX8_ranked 29 = .ok (.iload_n 2, 1) := by decide +kernel
theorem dX8_ranked_30 : decode cX8_ranked 30 = .ok (.aload_n 0, 1) := by decide +kernel
theorem dX8_ranked_31 : decode cX8_ranked 31 = .ok (.getfield 15, 3) := by decide +kernel
theorem dX8_ranked_34 : decode cX8_ranked 34 = .ok (.iload_n 3, 1) := by decide +kernel
theorem dX8_ranked_35 : decode cX8_ranked 35 = .ok (.iaload, 1) := by decide +kernel
theorem dX8_ranked_36 : decode cX8_ranked 36 = .ok (.if_icmp .lt 18, 3) := by decide +kernel
theorem dX8_ranked_39 : decode cX8_ranked 39 = .ok (.iload_n 2, 1) := by decide +kernel
theorem dX8_ranked_40 : decode cX8_ranked 40 = .ok (.aload_n 0, 1) := by decide +kernel
theorem dX8_ranked_41 : decode cX8_ranked 41 = .ok (.getfield 15, 3) := by decide +kernel
theorem dX8_ranked_44 : decode cX8_ranked 44 = .ok (.iload_n 3, 1) := by decide +kernel
theorem dX8_ranked_45 : decode cX8_ranked 45 = .ok (.iaload, 1) := by decide +kernel
theorem dX8_ranked_46 : decode cX8_ranked 46 = .ok (.isub, 1) := by decide +kernel
theorem dX8_ranked_47 : decode cX8_ranked 47 = .ok (.istore_n 2, 1) := by decide +kernel
theorem dX8_ranked_48 : decode cX8_ranked 48 = .ok (.iinc 3 1, 3) := by decide +kernel
theorem dX8_ranked_51 : decode cX8_ranked 51 = .ok (.goto (-28), 3) := by decide +kernel
theorem dX8_ranked_54 : decode cX8_ranked 54 = .ok (.iload_n 3, 1) := by decide +kernel
theorem dX8_ranked_55 : decode cX8_ranked 55 = .ok (.bipush 16, 2) := by decide +kernel
theorem dX8_ranked_57 : decode cX8_ranked 57 = .ok (.imul, 1) := by decide +kernel
theorem dX8_ranked_58 : decode cX8_ranked 58 = .ok (.istore 4, 2) := by decide +kernel
theorem dX8_ranked_60 : decode cX8_ranked 60 = .ok (.iload 4, 2) := by decide +kernel
theorem dX8_ranked_62 : decode cX8_ranked 62 = .ok (.sipush 255, 3) := by decide +kernel
theorem dX8_ranked_65 : decode cX8_ranked 65 = .ok (.if_icmp .ge 30, 3) := by decide +kernel
theorem dX8_ranked_68 : decode cX8_ranked 68 = .ok (.iload_n 2, 1) := by decide +kernel
theorem dX8_ranked_69 : decode cX8_ranked 69 = .ok (.aload_n 0, 1) := by decide +kernel
theorem dX8_ranked_70 : decode cX8_ranked 70 = .ok (.getfield 19, 3) := by decide +kernel
theorem dX8_ranked_73 : decode cX8_ranked 73 = .ok (.iload 4, 2) := by decide +kernel
theorem dX8_ranked_75 : decode cX8_ranked 75 = .ok (.iaload, 1) := by decide +kernel
theorem dX8_ranked_76 : decode cX8_ranked 76 = .ok (.if_icmp .lt 19, 3) := by decide +kernel
theorem dX8_ranked_79 : decode cX8_ranked 79 = .ok (.iload_n 2, 1) := by decide +kernel
theorem dX8_ranked_80 : decode cX8_ranked 80 = .ok (.aload_n 0, 1) := by decide +kernel
theorem dX8_ranked_81 : decode cX8_ranked 81 = .ok (.getfield 19, 3) := by decide +kernel
theorem dX8_ranked_84 : decode cX8_ranked 84 = .ok (.iload 4, 2) := by decide +kernel
theorem dX8_ranked_86 : decode cX8_ranked 86 = .ok (.iaload, 1) := by decide +kernel
theorem dX8_ranked_87 : decode cX8_ranked 87 = .ok (.isub, 1) := by decide +kernel
theorem dX8_ranked_88 : decode cX8_ranked 88 = .ok (.istore_n 2, 1) := by decide +kernel
theorem dX8_ranked_89 : decode cX8_ranked 89 = .ok (.iinc 4 1, 3) := by decide +kernel
theorem dX8_ranked_92 : decode cX8_ranked 92 = .ok (.goto (-32), 3) := by decide +kernel
theorem dX8_ranked_95 : decode cX8_ranked 95 = .ok (.iload 4, 2) := by decide +kernel
theorem dX8_ranked_97 : decode cX8_ranked 97 = .ok (.ireturn, 1) := by decide +kernel
theorem dX8_countedBelow_0 : decode cX8_countedBelow 0 = .ok (.iconst 0, 1) := by decide +kernel
theorem dX8_countedBelow_1 : decode cX8_countedBelow 1 = .ok (.istore_n 2, 1) := by decide +kernel
theorem dX8_countedBelow_2 : decode cX8_countedBelow 2 = .ok (.iconst 0, 1) := by decide +kernel
theorem dX8_countedBelow_3 : decode cX8_countedBelow 3 = .ok (.istore_n 3, 1) := by decide +kernel
theorem dX8_countedBelow_4 : decode cX8_countedBelow 4 = .ok (.iload_n 3, 1) := by decide +kernel
theorem dX8_countedBelow_5 : decode cX8_countedBelow 5 = .ok (.iload_n 1, 1) := by decide +kernel
theorem dX8_countedBelow_6 : decode cX8_countedBelow 6 = .ok (.if_icmp .ge 25, 3) := by decide +kernel
theorem dX8_countedBelow_9 : decode cX8_countedBelow 9 = .ok (.iload_n 3, 1) := by decide +kernel
theorem dX8_countedBelow_10 : decode cX8_countedBelow 10 = .ok (.sipush 256, 3) := by decide +kernel
theorem dX8_countedBelow_13 : decode cX8_countedBelow 13 = .ok (.if_icmp .ge 18, 3) := by decide +kernel
theorem dX8_countedBelow_16 : decode cX8_countedBelow 16 = .ok (.iload_n 2, 1) := by decide +kernel
theorem dX8_countedBelow_17 : decode cX8_countedBelow 17 = .ok (.aload_n 0, 1) := by decide +kernel
theorem dX8_countedBelow_18 : decode cX8_countedBelow 18 = .ok (.getfield 19, 3) := by decide +kernel
theorem dX8_countedBelow_21 : decode cX8_countedBelow 21 = .ok (.iload_n 3, 1) := by decide +kernel
theorem dX8_countedBelow_22 : decode cX8_countedBelow 22 = .ok (.iaload, 1) := by decide +kernel
theorem dX8_countedBelow_23 : decode cX8_countedBelow 23 = .ok (.iadd, 1) := by decide +kernel
theorem dX8_countedBelow_24 : decode cX8_countedBelow 24 = .ok (.istore_n 2, 1) := by decide +kernel
theorem dX8_countedBelow_25 : decode cX8_countedBelow 25 = .ok (.iinc 3 1, 3) := by decide +kernel
theorem dX8_countedBelow_28 : decode cX8_countedBelow 28 = .ok (.goto (-24), 3) := by decide +kernel
theorem dX8_countedBelow_31 : decode cX8_countedBelow 31 = .ok (.iload_n 2, 1) := by decide +kernel
theorem dX8_countedBelow_32 : decode cX8_countedBelow 32 = .ok (.ireturn, 1) := by decide +kernel
theorem dX8_spread_0 : decode cX8_spread 0 = .ok (.aload_n 0, 1) := by decide +kernel
theorem dX8_spread_1 : decode cX8_spread 1 = .ok (.getfield 9, 3) := by decide +kernel
theorem dX8_spread_4 : decode cX8_spread 4 = .ok (.ifCond .ne 7, 3) := by decide +kernel
theorem dX8_spread_7 : decode cX8_spread 7 = .ok (.iconst (-1), 1) := by decide +kernel
theorem dX8_spread_8 : decode cX8_spread 8 = .ok (.goto 15, 3) := by decide +kernel
theorem dX8_spread_11 : decode cX8_spread 11 = .ok (.aload_n 0, 1) := by decide +kernel
theorem dX8_spread_12 : decode cX8_spread 12 = .ok (.bipush 100, 2) := by decide +kernel
theorem dX8_spread_14 : decode cX8_spread 14 = .ok (.invokevirtual 64, 3) := by decide +kernel
theorem dX8_spread_17 : decode cX8_spread 17 = .ok (.aload_n 0, 1) := by decide +kernel
theorem dX8_spread_18 : decode cX8_spread 18 = .ok (.iconst 0, 1) := by decide +kernel
theorem dX8_spread_19 : decode cX8_spread 19 = .ok (.invokevirtual 64, 3) := by decide +kernel
theorem dX8_spread_22 : decode cX8_spread 22 = .ok (.isub, 1) := by decide +kernel
theorem dX8_spread_23 : decode cX8_spread 23 = .ok (.ireturn, 1) := by decide +kernel
theorem dX8_countRow_0 : decode cX8_countRow 0 = .ok (.iload 4, 2) := by decide +kernel
theorem dX8_countRow_2 : decode cX8_countRow 2 = .ok (.aload_n 2, 1) := by decide +kernel
theorem dX8_countRow_3 : decode cX8_countRow 3 = .ok (.getfield 68, 3) := by decide +kernel
theorem dX8_countRow_6 : decode cX8_countRow 6 = .ok (.isub, 1) := by decide +kernel
theorem dX8_countRow_7 : decode cX8_countRow 7 = .ok (.istore 6, 2) := by decide +kernel
theorem dX8_countRow_9 : decode cX8_countRow 9 = .ok (.iload 6, 2) := by decide +kernel
theorem dX8_countRow_11 : decode cX8_countRow 11 = .ok (.iload 4, 2) := by decide +kernel
theorem dX8_countRow_13 : decode cX8_countRow 13 = .ok (.aload_n 2, 1) := by decide +kernel
theorem dX8_countRow_14 : decode cX8_countRow 14 = .ok (.getfield 68, 3) := by decide +kernel
theorem dX8_countRow_17 : decode cX8_countRow 17 = .ok (.iadd, 1) := by decide +kernel
theorem dX8_countRow_18 : decode cX8_countRow 18 = .ok (.if_icmp .gt 81, 3) := by decide +kernel
theorem dX8_countRow_21 : decode cX8_countRow 21 = .ok (.iload 6, 2) := by decide +kernel
theorem dX8_countRow_23 : decode cX8_countRow 23 = .ok (.aload_n 1, 1) := by decide +kernel
theorem dX8_countRow_24 : decode cX8_countRow 24 = .ok (.getfield 71, 3) := by decide +kernel
theorem dX8_countRow_27 : decode cX8_countRow 27 = .ok (.aload_n 2, 1) := by decide +kernel
theorem dX8_countRow_28 : decode cX8_countRow 28 = .ok (.getfield 38, 3) := by decide +kernel
theorem dX8_countRow_31 : decode cX8_countRow 31 = .ok (.invokestatic 41, 3) := by decide +kernel
theorem dX8_countRow_34 : decode cX8_countRow 34 = .ok (.istore 7, 2) := by decide +kernel
theorem dX8_countRow_36 : decode cX8_countRow 36 = .ok (.iload 5, 2) := by decide +kernel
theorem dX8_countRow_38 : decode cX8_countRow 38 = .ok (.iconst (-1), 1) := by decide +kernel
theorem dX8_countRow_39 : decode cX8_countRow 39 = .ok (.if_icmp .eq 9, 3) := by decide +kernel
theorem dX8_countRow_42 : decode cX8_countRow 42 = .ok (.iload 7, 2) := by decide +kernel
theorem dX8_countRow_44 : decode cX8_countRow 44 = .ok (.iconst (-1), 1) := by decide +kernel
theorem dX8_countRow_45 : decode cX8_countRow 45 = .ok (.if_icmp .ne 24, 3) := by decide +kernel
theorem dX8_countRow_48 : decode cX8_countRow 48 = .ok (.aload_n 0, 1) := by decide +kernel
theorem dX8_countRow_49 : decode cX8_countRow 49 = .ok (.iload_n 3, 1) := by decide +kernel
theorem dX8_countRow_50 : decode cX8_countRow 50 = .ok (.aload_n 2, 1) := by decide +kernel
theorem dX8_countRow_51 : decode cX8_countRow 51 = .ok (.getfield 38, 3) := by decide +kernel
theorem dX8_countRow_54 : decode cX8_countRow 54 = .ok (.iconst 4, 1) := by decide +kernel
theorem dX8_countRow_55 : decode cX8_countRow 55 = .ok (.if_icmp .ne 7, 3) := by decide +kernel
theorem dX8_countRow_58 : decode cX8_countRow 58 = .ok (.iconst 1, 1) := by decide +kernel
theorem dX8_countRow_59 : decode cX8_countRow 59 = .ok (.goto 4, 3) := by decide +kernel
theorem dX8_countRow_62 : decode cX8_countRow 62 = .ok (.iconst 0, 1) := by decide +kernel
theorem dX8_countRow_63 : decode cX8_countRow 63 = .ok (.invokevirtual 60, 3) := by decide +kernel
theorem dX8_countRow_66 : decode cX8_countRow 66 = .ok (.goto 27, 3) := by decide +kernel
theorem dX8_countRow_69 : decode cX8_countRow 69 = .ok (.aload_n 1, 1) := by decide +kernel
theorem dX8_countRow_70 : decode cX8_countRow 70 = .ok (.iload 7, 2) := by decide +kernel
theorem dX8_countRow_72 : decode cX8_countRow 72 = .ok (.iload 5, 2) := by decide +kernel
theorem dX8_countRow_74 : decode cX8_countRow 74 = .ok (.invokevirtual 49, 3) := by decide +kernel
theorem dX8_countRow_77 : decode cX8_countRow 77 = .ok (.ifCond .ne 16, 3) := by decide +kernel
theorem dX8_countRow_80 : decode cX8_countRow 80 = .ok (.aload_n 0, 1) := by decide +kernel
theorem dX8_countRow_81 : decode cX8_countRow 81 = .ok (.aload_n 1, 1) := by decide +kernel
theorem dX8_countRow_82 : decode cX8_countRow 82 = .ok (.iload 7, 2) := by decide +kernel
theorem dX8_countRow_84 : decode cX8_countRow 84 = .ok (.iload 5, 2) := by decide +kernel
theorem dX8_countRow_86 : decode cX8_countRow 86 = .ok (.invokevirtual 53, 3) := by decide +kernel
theorem dX8_countRow_89 : decode cX8_countRow 89 = .ok (.iconst 1, 1) := by decide +kernel
theorem dX8_countRow_90 : decode cX8_countRow 90 = .ok (.invokevirtual 60, 3) := by decide +kernel
theorem dX8_countRow_93 : decode cX8_countRow 93 = .ok (.iinc 6 1, 3) := by decide +kernel
theorem dX8_countRow_96 : decode cX8_countRow 96 = .ok (.goto (-87), 3) := by decide +kernel
theorem dX8_countRow_99 : decode cX8_countRow 99 = .ok (.return_, 1) := by decide +kernel
theorem dX8_count_0 : decode cX8_count 0 = .ok (.iload_n 1, 1) := by decide +kernel
theorem dX8_count_1 : decode cX8_count 1 = .ok (.iconst 0, 1) := by decide +kernel
theorem dX8_count_2 : decode cX8_count 2 = .ok (.sipush 255, 3) := by decide +kernel
theorem dX8_count_5 : decode cX8_count 5 = .ok (.invokestatic 74, 3) := by decide +kernel
theorem dX8_count_8 : decode cX8_count 8 = .ok (.ifCond .eq 36, 3) := by decide +kernel
theorem dX8_count_11 : decode cX8_count 11 = .ok (.aload_n 0, 1) := by decide +kernel
theorem dX8_count_12 : decode cX8_count 12 = .ok (.dup, 1) := by decide +kernel
theorem dX8_count_13 : decode cX8_count 13 = .ok (.getfield 9, 3) := by decide +kernel
theorem dX8_count_16 : decode cX8_count 16 = .ok (.iload_n 2, 1) := by decide +kernel
theorem dX8_count_17 : decode cX8_count 17 = .ok (.iadd, 1) := by decide +kernel
theorem dX8_count_18 : decode cX8_count 18 = .ok (.putfield 9, 3) := by decide +kernel
theorem dX8_count_21 : decode cX8_count 21 = .ok (.aload_n 0, 1) := by decide +kernel
theorem dX8_count_22 : decode cX8_count 22 = .ok (.getfield 15, 3) := by decide +kernel
theorem dX8_count_25 : decode cX8_count 25 = .ok (.iload_n 1, 1) := by decide +kernel
theorem dX8_count_26 : decode cX8_count 26 = .ok (.bipush 16, 2) := by decide +kernel
theorem dX8_count_28 : decode cX8_count 28 = .ok (.idiv, 1) := by decide +kernel
theorem dX8_count_29 : decode cX8_count 29 = .ok (.dup2, 1) := by decide +kernel
theorem dX8_count_30 : decode cX8_count 30 = .ok (.iaload, 1) := by decide +kernel
theorem dX8_count_31 : decode cX8_count 31 = .ok (.iload_n 2, 1) := by decide +kernel
theorem dX8_count_32 : decode cX8_count 32 = .ok (.iadd, 1) := by decide +kernel
theorem dX8_count_33 : decode cX8_count 33 = .ok (.iastore, 1) := by decide +kernel
theorem dX8_count_34 : decode cX8_count 34 = .ok (.aload_n 0, 1) := by decide +kernel
theorem dX8_count_35 : decode cX8_count 35 = .ok (.getfield 19, 3) := by decide +kernel
theorem dX8_count_38 : decode cX8_count 38 = .ok (.iload_n 1, 1) := by decide +kernel
theorem dX8_count_39 : decode cX8_count 39 = .ok (.dup2, 1) := by decide +kernel
theorem dX8_count_40 : decode cX8_count 40 = .ok (.iaload, 1) := by decide +kernel
theorem dX8_count_41 : decode cX8_count 41 = .ok (.iload_n 2, 1) := by decide +kernel
theorem dX8_count_42 : decode cX8_count 42 = .ok (.iadd, 1) := by decide +kernel
theorem dX8_count_43 : decode cX8_count 43 = .ok (.iastore, 1) := by decide +kernel
theorem dX8_count_44 : decode cX8_count 44 = .ok (.return_, 1) := by decide +kernel
theorem dX8_standingFor_0 : decode cX8_standingFor 0 = .ok (.iload_n 1, 1) := by decide +kernel
theorem dX8_standingFor_1 : decode cX8_standingFor 1 = .ok (.iconst 1, 1) := by decide +kernel
theorem dX8_standingFor_2 : decode cX8_standingFor 2 = .ok (.if_icmp .ge 5, 3) := by decide +kernel
theorem dX8_standingFor_5 : decode cX8_standingFor 5 = .ok (.iconst (-1), 1) := by decide +kernel
theorem dX8_standingFor_6 : decode cX8_standingFor 6 = .ok (.ireturn, 1) := by decide +kernel
theorem dX8_standingFor_7 : decode cX8_standingFor 7 = .ok (.iload_n 0, 1) := by decide +kernel
theorem dX8_standingFor_8 : decode cX8_standingFor 8 = .ok (.iconst 0, 1) := by decide +kernel
theorem dX8_standingFor_9 : decode cX8_standingFor 9 = .ok (.iload_n 1, 1) := by decide +kernel
theorem dX8_standingFor_10 : decode cX8_standingFor 10 = .ok (.iconst 1, 1) := by decide +kernel
theorem dX8_standingFor_11 : decode cX8_standingFor 11 = .ok (.isub, 1) := by decide +kernel
theorem dX8_standingFor_12 : decode cX8_standingFor 12 = .ok (.invokestatic 74, 3) := by decide +kernel
theorem dX8_standingFor_15 : decode cX8_standingFor 15 = .ok (.ifCond .eq 5, 3) := by decide +kernel
theorem dX8_standingFor_18 : decode cX8_standingFor 18 = .ok (.iload_n 0, 1) := by decide +kernel
theorem dX8_standingFor_19 : decode cX8_standingFor 19 = .ok (.ireturn, 1) := by decide +kernel
theorem dX8_standingFor_20 : decode cX8_standingFor 20 = .ok (.iload_n 0, 1) := by decide +kernel
theorem dX8_standingFor_21 : decode cX8_standingFor 21 = .ok (.iconst 2, 1) := by decide +kernel
theorem dX8_standingFor_22 : decode cX8_standingFor 22 = .ok (.iload_n 1, 1) := by decide +kernel
theorem dX8_standingFor_23 : decode cX8_standingFor 23 = .ok (.imul, 1) := by decide +kernel
theorem dX8_standingFor_24 : decode cX8_standingFor 24 = .ok (.invokestatic 78, 3) := by decide +kernel
theorem dX8_standingFor_27 : decode cX8_standingFor 27 = .ok (.istore_n 3, 1) := by decide +kernel
theorem dX8_standingFor_28 : decode cX8_standingFor 28 = .ok (.iload_n 2, 1) := by decide +kernel
theorem dX8_standingFor_29 : decode cX8_standingFor 29 = .ok (.tableswitch 57 1 3 #[27, 39, 51], 27) := by decide +kernel
theorem dX8_standingFor_56 : decode cX8_standingFor 56 = .ok (.iload_n 0, 1) := by decide +kernel
theorem dX8_standingFor_57 : decode cX8_standingFor 57 = .ok (.ifCond .ge 7, 3) := by decide +kernel
theorem dX8_standingFor_60 : decode cX8_standingFor 60 = .ok (.iconst 0, 1) := by decide +kernel
theorem dX8_standingFor_61 : decode cX8_standingFor 61 = .ok (.goto 6, 3) := by decide +kernel
theorem dX8_standingFor_64 : decode cX8_standingFor 64 = .ok (.iload_n 1, 1) := by decide +kernel
theorem dX8_standingFor_65 : decode cX8_standingFor 65 = .ok (.iconst 1, 1) := by decide +kernel
theorem dX8_standingFor_66 : decode cX8_standingFor 66 = .ok (.isub, 1) := by decide +kernel
theorem dX8_standingFor_67 : decode cX8_standingFor 67 = .ok (.ireturn, 1) := by decide +kernel
theorem dX8_standingFor_68 : decode cX8_standingFor 68 = .ok (.iload_n 3, 1) := by decide +kernel
theorem dX8_standingFor_69 : decode cX8_standingFor 69 = .ok (.iconst 2, 1) := by decide +kernel
theorem dX8_standingFor_70 : decode cX8_standingFor 70 = .ok (.iload_n 1, 1) := by decide +kernel
theorem dX8_standingFor_71 : decode cX8_standingFor 71 = .ok (.imul, 1) := by decide +kernel
theorem dX8_standingFor_72 : decode cX8_standingFor 72 = .ok (.iconst 1, 1) := by decide +kernel
theorem dX8_standingFor_73 : decode cX8_standingFor 73 = .ok (.isub, 1) := by decide +kernel
theorem dX8_standingFor_74 : decode cX8_standingFor 74 = .ok (.iload_n 3, 1) := by decide +kernel
theorem dX8_standingFor_75 : decode cX8_standingFor 75 = .ok (.isub, 1) := by decide +kernel
theorem dX8_standingFor_76 : decode cX8_standingFor 76 = .ok (.invokestatic 83, 3) := by decide +kernel
theorem dX8_standingFor_79 : decode cX8_standingFor 79 = .ok (.ireturn, 1) := by decide +kernel
theorem dX8_standingFor_80 : decode cX8_standingFor 80 = .ok (.iload_n 0, 1) := by decide +kernel
theorem dX8_standingFor_81 : decode cX8_standingFor 81 = .ok (.iload_n 1, 1) := by decide +kernel
theorem dX8_standingFor_82 : decode cX8_standingFor 82 = .ok (.invokestatic 78, 3) := by decide +kernel
theorem dX8_standingFor_85 : decode cX8_standingFor 85 = .ok (.ireturn, 1) := by decide +kernel
theorem dX8_standingFor_86 : decode cX8_standingFor 86 = .ok (.iconst (-1), 1) := by decide +kernel
theorem dX8_standingFor_87 : decode cX8_standingFor 87 = .ok (.ireturn, 1) := by decide +kernel
theorem dX9_init_0 : decode cX9_init 0 = .ok (.aload_n 0, 1) := by decide +kernel
theorem dX9_init_1 : decode cX9_init 1 = .ok (.invokespecial 1, 3) := by decide +kernel
theorem dX9_init_4 : decode cX9_init 4 = .ok (.aload_n 0, 1) := by decide +kernel
theorem dX9_init_5 : decode cX9_init 5 = .ok (.new 7, 3) := by decide +kernel
theorem dX9_init_8 : decode cX9_init 8 = .ok (.dup, 1) := by decide +kernel
theorem dX9_init_9 : decode cX9_init 9 = .ok (.invokespecial 9, 3) := by decide +kernel
theorem dX9_init_12 : decode cX9_init 12 = .ok (.putfield 10, 3) := by decide +kernel
theorem dX9_init_15 : decode cX9_init 15 = .ok (.aload_n 0, 1) := by decide +kernel
theorem dX9_init_16 : decode cX9_init 16 = .ok (.new 16, 3) := by decide +kernel
theorem dX9_init_19 : decode cX9_init 19 = .ok (.dup, 1) := by decide +kernel
theorem dX9_init_20 : decode cX9_init 20 = .ok (.invokespecial 18, 3) := by decide +kernel
theorem dX9_init_23 : decode cX9_init 23 = .ok (.putfield 19, 3) := by decide +kernel
theorem dX9_init_26 : decode cX9_init 26 = .ok (.aload_n 0, 1) := by decide +kernel
theorem dX9_init_27 : decode cX9_init 27 = .ok (.iconst 2, 1) := by decide +kernel
theorem dX9_init_28 : decode cX9_init 28 = .ok (.anewarray 16, 3) := by decide +kernel
theorem dX9_init_31 : decode cX9_init 31 = .ok (.dup, 1) := by decide +kernel
theorem dX9_init_32 : decode cX9_init 32 = .ok (.iconst 0, 1) := by decide +kernel
theorem dX9_init_33 : decode cX9_init 33 = .ok (.new 16, 3) := by decide +kernel
theorem dX9_init_36 : decode cX9_init 36 = .ok (.dup, 1) := by decide +kernel
theorem dX9_init_37 : decode cX9_init 37 = .ok (.invokespecial 18, 3) := by decide +kernel
theorem dX9_init_40 : decode cX9_init 40 = .ok (.aastore, 1) := by decide +kernel
theorem dX9_init_41 : decode cX9_init 41 = .ok (.dup, 1) := by decide +kernel
theorem dX9_init_42 : decode cX9_init 42 = .ok (.iconst 1, 1) := by decide +kernel
theorem dX9_init_43 : decode cX9_init 43 = .ok (.new 16, 3) := by decide +kernel
theorem dX9_init_46 : decode cX9_init 46 = .ok (.dup, 1) := by decide +kernel
theorem dX9_init_47 : decode cX9_init 47 = .ok (.invokespecial 18, 3) := by decide +kernel
theorem dX9_init_50 : decode cX9_init 50 = .ok (.aastore, 1) := by decide +kernel
theorem dX9_init_51 : decode cX9_init 51 = .ok (.putfield 23, 3) := by decide +kernel
theorem dX9_init_54 : decode cX9_init 54 = .ok (.aload_n 0, 1) := by decide +kernel
theorem dX9_init_55 : decode cX9_init 55 = .ok (.iconst 2, 1) := by decide +kernel
theorem dX9_init_56 : decode cX9_init 56 = .ok (.newarray .boolean, 2) := by decide +kernel
theorem dX9_init_58 : decode cX9_init 58 = .ok (.putfield 27, 3) := by decide +kernel
theorem dX9_init_61 : decode cX9_init 61 = .ok (.aload_n 0, 1) := by decide +kernel
theorem dX9_init_62 : decode cX9_init 62 = .ok (.new 31, 3) := by decide +kernel
theorem dX9_init_65 : decode cX9_init 65 = .ok (.dup, 1) := by decide +kernel
theorem dX9_init_66 : decode cX9_init 66 = .ok (.invokespecial 33, 3) := by decide +kernel
theorem dX9_init_69 : decode cX9_init 69 = .ok (.putfield 34, 3) := by decide +kernel
theorem dX9_init_72 : decode cX9_init 72 = .ok (.aload_n 0, 1) := by decide +kernel
theorem dX9_init_73 : decode cX9_init 73 = .ok (.new 38, 3) := by decide +kernel
theorem dX9_init_76 : decode cX9_init 76 = .ok (.dup, 1) := by decide +kernel
theorem dX9_init_77 : decode cX9_init 77 = .ok (.invokespecial 40, 3) := by decide +kernel
theorem dX9_init_80 : decode cX9_init 80 = .ok (.putfield 41, 3) := by decide +kernel
theorem dX9_init_83 : decode cX9_init 83 = .ok (.aload_n 0, 1) := by decide +kernel
theorem dX9_init_84 : decode cX9_init 84 = .ok (.new 45, 3) := by decide +kernel
theorem dX9_init_87 : decode cX9_init 87 = .ok (.dup, 1) := by decide +kernel
theorem dX9_init_88 : decode cX9_init 88 = .ok (.invokespecial 47, 3) := by decide +kernel
theorem dX9_init_91 : decode cX9_init 91 = .ok (.putfield 48, 3) := by decide +kernel
theorem dX9_init_94 : decode cX9_init 94 = .ok (.aload_n 0, 1) := by decide +kernel
theorem dX9_init_95 : decode cX9_init 95 = .ok (.new 52, 3) := by decide +kernel
theorem dX9_init_98 : decode cX9_init 98 = .ok (.dup, 1) := by decide +kernel
theorem dX9_init_99 : decode cX9_init 99 = .ok (.invokespecial 54, 3) := by decide +kernel
theorem dX9_init_102 : decode cX9_init 102 = .ok (.putfield 55, 3) := by decide +kernel
theorem dX9_init_105 : decode cX9_init 105 = .ok (.aload_n 0, 1) := by decide +kernel
theorem dX9_init_106 : decode cX9_init 106 = .ok (.new 52, 3) := by decide +kernel
theorem dX9_init_109 : decode cX9_init 109 = .ok (.dup, 1) := by decide +kernel
theorem dX9_init_110 : decode cX9_init 110 = .ok (.invokespecial 54, 3) := by decide +kernel
theorem dX9_init_113 : decode cX9_init 113 = .ok (.putfield 59, 3) := by decide +kernel
theorem dX9_init_116 : decode cX9_init 116 = .ok (.aload_n 0, 1) := by decide +kernel
theorem dX9_init_117 : decode cX9_init 117 = .ok (.iconst (-1), 1) := by decide +kernel
theorem dX9_init_118 : decode cX9_init 118 = .ok (.putfield 62, 3) := by decide +kernel
theorem dX9_init_121 : decode cX9_init 121 = .ok (.return_, 1) := by decide +kernel
theorem dX9_feed_0 : decode cX9_feed 0 = .ok (.iload_n 1, 1) := by decide +kernel
theorem dX9_feed_1 : decode cX9_feed 1 = .ok (.iconst 0, 1) := by decide +kernel
theorem dX9_feed_2 : decode cX9_feed 2 = .ok (.sipush 255, 3) := by decide +kernel
theorem dX9_feed_5 : decode cX9_feed 5 = .ok (.invokestatic 66, 3) := by decide +kernel
theorem dX9_feed_8 : decode cX9_feed 8 = .ok (.ifCond .ne 6, 3) := by decide +kernel
theorem dX9_feed_11 : decode cX9_feed 11 = .ok (.ldc 70, 2) := by decide +kernel
theorem dX9_feed_13 : decode cX9_feed 13 = .ok (.ireturn, 1) := by decide +kernel
theorem dX9_feed_14 : decode cX9_feed 14 = .ok (.aload_n 0, 1) := by decide +kernel
theorem dX9_feed_15 : decode cX9_feed 15 = .ok (.getfield 10, 3) := by decide +kernel
theorem dX9_feed_18 : decode cX9_feed 18 = .ok (.iload_n 1, 1) := by decide +kernel
theorem dX9_feed_19 : decode cX9_feed 19 = .ok (.invokevirtual 71, 3) := by decide +kernel
theorem dX9_feed_22 : decode cX9_feed 22 = .ok (.ireturn, 1) := by decide +kernel
theorem dX9_picture_0 : decode cX9_picture 0 = .ok (.aload_n 0, 1) := by decide +kernel
theorem dX9_picture_1 : decode cX9_picture 1 = .ok (.getfield 10, 3) := by decide +kernel
theorem dX9_picture_4 : decode cX9_picture 4 = .ok (.aload_n 0, 1) := by decide +kernel
theorem dX9_picture_5 : decode cX9_picture 5 = .ok (.getfield 55, 3) := by decide +kernel
theorem dX9_picture_8 : decode cX9_picture 8 = .ok (.invokevirtual 75, 3) := by decide +kernel
theorem dX9_picture_11 : decode cX9_picture 11 = .ok (.istore_n 1, 1) := by decide +kernel
theorem dX9_picture_12 : decode cX9_picture 12 = .ok (.aload_n 0, 1) := by decide +kernel
theorem dX9_picture_13 : decode cX9_picture 13 = .ok (.iload_n 1, 1) := by decide +kernel
theorem dX9_picture_14 : decode cX9_picture 14 = .ok (.ifCond .ne 7, 3) := by decide +kernel
theorem dX9_picture_17 : decode cX9_picture 17 = .ok (.iconst (-1), 1) := by decide +kernel
theorem dX9_picture_18 : decode cX9_picture 18 = .ok (.goto 10, 3) := by decide +kernel
theorem dX9_picture_21 : decode cX9_picture 21 = .ok (.aload_n 0, 1) := by decide +kernel
theorem dX9_picture_22 : decode cX9_picture 22 = .ok (.getfield 10, 3) := by decide +kernel
theorem dX9_picture_25 : decode cX9_picture 25 = .ok (.invokevirtual 79, 3) := by decide +kernel
theorem dX9_picture_28 : decode cX9_picture 28 = .ok (.putfield 62, 3) := by decide +kernel
theorem dX9_picture_31 : decode cX9_picture 31 = .ok (.aload_n 0, 1) := by decide +kernel
theorem dX9_picture_32 : decode cX9_picture 32 = .ok (.getfield 10, 3) := by decide +kernel
theorem dX9_picture_35 : decode cX9_picture 35 = .ok (.invokevirtual 83, 3) := by decide +kernel
theorem dX9_picture_38 : decode cX9_picture 38 = .ok (.iload_n 1, 1) := by decide +kernel
theorem dX9_picture_39 : decode cX9_picture 39 = .ok (.ifCond .eq 8, 3) := by decide +kernel
theorem dX9_picture_42 : decode cX9_picture 42 = .ok (.bipush (-10), 2) := by decide +kernel
theorem dX9_picture_44 : decode cX9_picture 44 = .ok (.iload_n 1, 1) := by decide +kernel
theorem dX9_picture_45 : decode cX9_picture 45 = .ok (.isub, 1) := by decide +kernel
theorem dX9_picture_46 : decode cX9_picture 46 = .ok (.ireturn, 1) := by decide +kernel
theorem dX9_picture_47 : decode cX9_picture 47 = .ok (.aload_n 0, 1) := by decide +kernel
theorem dX9_picture_48 : decode cX9_picture 48 = .ok (.getfield 34, 3) := by decide +kernel
theorem dX9_picture_51 : decode cX9_picture 51 = .ok (.aload_n 0, 1) := by decide +kernel
theorem dX9_picture_52 : decode cX9_picture 52 = .ok (.getfield 19, 3) := by decide +kernel
theorem dX9_picture_55 : decode cX9_picture 55 = .ok (.getfield 86, 3) := by decide +kernel
theorem dX9_picture_58 : decode cX9_picture 58 = .ok (.invokevirtual 89, 3) := by decide +kernel
theorem dX9_picture_61 : decode cX9_picture 61 = .ok (.aload_n 0, 1) := by decide +kernel
theorem dX9_picture_62 : decode cX9_picture 62 = .ok (.getfield 19, 3) := by decide +kernel
theorem dX9_picture_65 : decode cX9_picture 65 = .ok (.getfield 86, 3) := by decide +kernel
theorem dX9_picture_68 : decode cX9_picture 68 = .ok (.aload_n 0, 1) := by decide +kernel
theorem dX9_picture_69 : decode cX9_picture 69 = .ok (.getfield 55, 3) := by decide +kernel
theorem dX9_picture_72 : decode cX9_picture 72 = .ok (.invokevirtual 93, 3) := by decide +kernel
theorem dX9_picture_75 : decode cX9_picture 75 = .ok (.aload_n 0, 1) := by decide +kernel
theorem dX9_picture_76 : decode cX9_picture 76 = .ok (.getfield 19, 3) := by decide +kernel
theorem dX9_picture_79 : decode cX9_picture 79 = .ok (.getfield 86, 3) := by decide +kernel
theorem dX9_picture_82 : decode cX9_picture 82 = .ok (.invokevirtual 96, 3) := by decide +kernel
theorem dX9_picture_85 : decode cX9_picture 85 = .ok (.ireturn, 1) := by decide +kernel
theorem dX9_fault_0 : decode cX9_fault 0 = .ok (.aload_n 0, 1) := by decide +kernel
theorem dX9_fault_1 : decode cX9_fault 1 = .ok (.getfield 62, 3) := by decide +kernel
theorem dX9_fault_4 : decode cX9_fault 4 = .ok (.ireturn, 1) := by decide +kernel
theorem dX9_told_0 : decode cX9_told 0 = .ok (.iload_n 1, 1) := by decide +kernel
theorem dX9_told_1 : decode cX9_told 1 = .ok (.tableswitch 187 0 11 #[63, 74, 85, 96, 107, 118, 129, 137, 148, 156, 164, 179], 63) := by decide +kernel
theorem dX9_told_64 : decode cX9_told 64 = .ok (.aload_n 0, 1) := by decide +kernel
theorem dX9_told_65 : decode cX9_told 65 = .ok (.getfield 19, 3) := by decide +kernel
theorem dX9_told_68 : decode cX9_told 68 = .ok (.getfield 86, 3) := by decide +kernel
theorem dX9_told_71 : decode cX9_told 71 = .ok (.getfield 99, 3) := by decide +kernel
theorem dX9_told_74 : decode cX9_told 74 = .ok (.ireturn, 1) := by decide +kernel
theorem dX9_told_75 : decode cX9_told 75 = .ok (.aload_n 0, 1) := by decide +kernel
theorem dX9_told_76 : decode cX9_told 76 = .ok (.getfield 19, 3) := by decide +kernel
theorem dX9_told_79 : decode cX9_told 79 = .ok (.getfield 86, 3) := by decide +kernel
theorem dX9_told_82 : decode cX9_told 82 = .ok (.getfield 102, 3) := by decide +kernel
theorem dX9_told_85 : decode cX9_told 85 = .ok (.ireturn, 1) := by decide +kernel
theorem dX9_told_86 : decode cX9_told 86 = .ok (.aload_n 0, 1) := by decide +kernel
theorem dX9_told_87 : decode cX9_told 87 = .ok (.getfield 19, 3) := by decide +kernel
theorem dX9_told_90 : decode cX9_told 90 = .ok (.getfield 86, 3) := by decide +kernel
theorem dX9_told_93 : decode cX9_told 93 = .ok (.invokevirtual 105, 3) := by decide +kernel
theorem dX9_told_96 : decode cX9_told 96 = .ok (.ireturn, 1) := by decide +kernel
theorem dX9_told_97 : decode cX9_told 97 = .ok (.aload_n 0, 1) := by decide +kernel
theorem dX9_told_98 : decode cX9_told 98 = .ok (.getfield 19, 3) := by decide +kernel
theorem dX9_told_101 : decode cX9_told 101 = .ok (.getfield 86, 3) := by decide +kernel
theorem dX9_told_104 : decode cX9_told 104 = .ok (.invokevirtual 108, 3) := by decide +kernel
theorem dX9_told_107 : decode cX9_told 107 = .ok (.ireturn, 1) := by decide +kernel
theorem dX9_told_108 : decode cX9_told 108 = .ok (.aload_n 0, 1) := by decide +kernel
theorem dX9_told_109 : decode cX9_told 109 = .ok (.getfield 19, 3) := by decide +kernel
theorem dX9_told_112 : decode cX9_told 112 = .ok (.getfield 86, 3) := by decide +kernel
theorem dX9_told_115 : decode cX9_told 115 = .ok (.invokevirtual 111, 3) := by decide +kernel
theorem dX9_told_118 : decode cX9_told 118 = .ok (.ireturn, 1) := by decide +kernel
theorem dX9_told_119 : decode cX9_told 119 = .ok (.aload_n 0, 1) := by decide +kernel
theorem dX9_told_120 : decode cX9_told 120 = .ok (.getfield 19, 3) := by decide +kernel
theorem dX9_told_123 : decode cX9_told 123 = .ok (.getfield 86, 3) := by decide +kernel
theorem dX9_told_126 : decode cX9_told 126 = .ok (.invokevirtual 114, 3) := by decide +kernel
theorem dX9_told_129 : decode cX9_told 129 = .ok (.ireturn, 1) := by decide +kernel
theorem dX9_told_130 : decode cX9_told 130 = .ok (.aload_n 0, 1) := by decide +kernel
theorem dX9_told_131 : decode cX9_told 131 = .ok (.getfield 10, 3) := by decide +kernel
theorem dX9_told_134 : decode cX9_told 134 = .ok (.getfield 117, 3) := by decide +kernel
theorem dX9_told_137 : decode cX9_told 137 = .ok (.ireturn, 1) := by decide +kernel
theorem dX9_told_138 : decode cX9_told 138 = .ok (.aload_n 0, 1) := by decide +kernel
theorem dX9_told_139 : decode cX9_told 139 = .ok (.getfield 19, 3) := by decide +kernel
theorem dX9_told_142 : decode cX9_told 142 = .ok (.getfield 120, 3) := by decide +kernel
theorem dX9_told_145 : decode cX9_told 145 = .ok (.getfield 124, 3) := by decide +kernel
theorem dX9_told_148 : decode cX9_told 148 = .ok (.ireturn, 1) := by decide +kernel
theorem dX9_told_149 : decode cX9_told 149 = .ok (.aload_n 0, 1) := by decide +kernel
theorem dX9_told_150 : decode cX9_told 150 = .ok (.getfield 19, 3) := by decide +kernel
theorem dX9_told_153 : decode cX9_told 153 = .ok (.getfield 129, 3) := by decide +kernel
theorem dX9_told_156 : decode cX9_told 156 = .ok (.ireturn, 1) := by decide +kernel
theorem dX9_told_157 : decode cX9_told 157 = .ok (.aload_n 0, 1) := by decide +kernel
theorem dX9_told_158 : decode cX9_told 158 = .ok (.getfield 41, 3) := by decide +kernel
theorem dX9_told_161 : decode cX9_told 161 = .ok (.getfield 132, 3) := by decide +kernel
theorem dX9_told_164 : decode cX9_told 164 = .ok (.ireturn, 1) := by decide +kernel
theorem dX9_told_165 : decode cX9_told 165 = .ok (.aload_n 0, 1) := by decide +kernel
theorem dX9_told_166 : decode cX9_told 166 = .ok (.getfield 41, 3) := by decide +kernel
theorem dX9_told_169 : decode cX9_told 169 = .ok (.aload_n 0, 1) := by decide +kernel
theorem dX9_told_170 : decode cX9_told 170 = .ok (.getfield 19, 3) := by decide +kernel
theorem dX9_told_173 : decode cX9_told 173 = .ok (.getfield 86, 3) := by decide +kernel
theorem dX9_told_176 : decode cX9_told 176 = .ok (.invokevirtual 133, 3) := by decide +kernel
theorem dX9_told_179 : decode cX9_told 179 = .ok (.ireturn, 1) := by decide +kernel
theorem dX9_told_180 : decode cX9_told 180 = .ok (.aload_n 0, 1) := by decide +kernel
theorem dX9_told_181 : decode cX9_told 181 = .ok (.getfield 34, 3) := by decide +kernel
theorem dX9_told_184 : decode cX9_told 184 = .ok (.getfield 136, 3) := by decide +kernel
theorem dX9_told_187 : decode cX9_told 187 = .ok (.ireturn, 1) := by decide +kernel
theorem dX9_told_188 : decode cX9_told 188 = .ok (.ldc 70, 2) := by decide +kernel
theorem dX9_told_190 : decode cX9_told 190 = .ok (.ireturn, 1) := by decide +kernel
theorem dX9_at_0 : decode cX9_at 0 = .ok (.aload_n 0, 1) := by decide +kernel
theorem dX9_at_1 : decode cX9_at 1 = .ok (.getfield 19, 3) := by decide +kernel
theorem dX9_at_4 : decode cX9_at 4 = .ok (.getfield 86, 3) := by decide +kernel
theorem dX9_at_7 : decode cX9_at 7 = .ok (.iload_n 1, 1) := by decide +kernel
theorem dX9_at_8 : decode cX9_at 8 = .ok (.iload_n 2, 1) := by decide +kernel
theorem dX9_at_9 : decode cX9_at 9 = .ok (.invokevirtual 137, 3) := by decide +kernel
theorem dX9_at_12 : decode cX9_at 12 = .ok (.ifCond .ne 6, 3) := by decide +kernel
theorem dX9_at_15 : decode cX9_at 15 = .ok (.ldc 141, 2) := by decide +kernel
theorem dX9_at_17 : decode cX9_at 17 = .ok (.ireturn, 1) := by decide +kernel
theorem dX9_at_18 : decode cX9_at 18 = .ok (.iload_n 3, 1) := by decide +kernel
theorem dX9_at_19 : decode cX9_at 19 = .ok (.lookupswitch 59 #[(0, 25), (1, 38)], 25) := by decide +kernel
theorem dX9_at_44 : decode cX9_at 44 = .ok (.aload_n 0, 1) := by decide +kernel
theorem dX9_at_45 : decode cX9_at 45 = .ok (.getfield 19, 3) := by decide +kernel
theorem dX9_at_48 : decode cX9_at 48 = .ok (.getfield 86, 3) := by decide +kernel
theorem dX9_at_51 : decode cX9_at 51 = .ok (.iload_n 1, 1) := by decide +kernel
theorem dX9_at_52 : decode cX9_at 52 = .ok (.iload_n 2, 1) := by decide +kernel
theorem dX9_at_53 : decode cX9_at 53 = .ok (.invokevirtual 142, 3) := by decide +kernel
theorem dX9_at_56 : decode cX9_at 56 = .ok (.ireturn, 1) := by decide +kernel
theorem dX9_at_57 : decode cX9_at 57 = .ok (.aload_n 0, 1) := by decide +kernel
theorem dX9_at_58 : decode cX9_at 58 = .ok (.getfield 19, 3) := by decide +kernel
theorem dX9_at_61 : decode cX9_at 61 = .ok (.getfield 86, 3) := by decide +kernel
theorem dX9_at_64 : decode cX9_at 64 = .ok (.iload_n 1, 1) := by decide +kernel
theorem dX9_at_65 : decode cX9_at 65 = .ok (.iload_n 2, 1) := by decide +kernel
theorem dX9_at_66 : decode cX9_at 66 = .ok (.invokevirtual 146, 3) := by decide +kernel
theorem dX9_at_69 : decode cX9_at 69 = .ok (.ifCond .eq 7, 3) := by decide +kernel
theorem dX9_at_72 : decode cX9_at 72 = .ok (.iconst 1, 1) := by decide +kernel
theorem dX9_at_73 : decode cX9_at 73 = .ok (.goto 4, 3) := by decide +kernel
theorem dX9_at_76 : decode cX9_at 76 = .ok (.iconst 0, 1) := by decide +kernel
theorem dX9_at_77 : decode cX9_at 77 = .ok (.ireturn, 1) := by decide +kernel
theorem dX9_at_78 : decode cX9_at 78 = .ok (.ldc 70, 2) := by decide +kernel
theorem dX9_at_80 : decode cX9_at 80 = .ok (.ireturn, 1) := by decide +kernel
theorem dX9_tally_0 : decode cX9_tally 0 = .ok (.aload_n 0, 1) := by decide +kernel
theorem dX9_tally_1 : decode cX9_tally 1 = .ok (.getfield 19, 3) := by decide +kernel
theorem dX9_tally_4 : decode cX9_tally 4 = .ok (.getfield 86, 3) := by decide +kernel
theorem dX9_tally_7 : decode cX9_tally 7 = .ok (.iload_n 1, 1) := by decide +kernel
theorem dX9_tally_8 : decode cX9_tally 8 = .ok (.iload_n 2, 1) := by decide +kernel
theorem dX9_tally_9 : decode cX9_tally 9 = .ok (.invokevirtual 137, 3) := by decide +kernel
theorem dX9_tally_12 : decode cX9_tally 12 = .ok (.ifCond .eq 19, 3) := by decide +kernel
theorem dX9_tally_15 : decode cX9_tally 15 = .ok (.aload_n 0, 1) := by decide +kernel
theorem dX9_tally_16 : decode cX9_tally 16 = .ok (.getfield 19, 3) := by decide +kernel
theorem dX9_tally_19 : decode cX9_tally 19 = .ok (.getfield 86, 3) := by decide +kernel
theorem dX9_tally_22 : decode cX9_tally 22 = .ok (.iload_n 3, 1) := by decide +kernel
theorem dX9_tally_23 : decode cX9_tally 23 = .ok (.iload 4, 2) := by decide +kernel
theorem dX9_tally_25 : decode cX9_tally 25 = .ok (.invokevirtual 137, 3) := by decide +kernel
theorem dX9_tally_28 : decode cX9_tally 28 = .ok (.ifCond .ne 6, 3) := by decide +kernel
theorem dX9_tally_31 : decode cX9_tally 31 = .ok (.ldc 141, 2) := by decide +kernel
theorem dX9_tally_33 : decode cX9_tally 33 = .ok (.ireturn, 1) := by decide +kernel
theorem dX9_tally_34 : decode cX9_tally 34 = .ok (.iload_n 3, 1) := by decide +kernel
theorem dX9_tally_35 : decode cX9_tally 35 = .ok (.iload_n 1, 1) := by decide +kernel
theorem dX9_tally_36 : decode cX9_tally 36 = .ok (.if_icmp .lt 21, 3) := by decide +kernel
theorem dX9_tally_39 : decode cX9_tally 39 = .ok (.iload 4, 2) := by decide +kernel
theorem dX9_tally_41 : decode cX9_tally 41 = .ok (.iload_n 2, 1) := by decide +kernel
theorem dX9_tally_42 : decode cX9_tally 42 = .ok (.if_icmp .lt 15, 3) := by decide +kernel
theorem dX9_tally_45 : decode cX9_tally 45 = .ok (.iload 5, 2) := by decide +kernel
theorem dX9_tally_47 : decode cX9_tally 47 = .ok (.iconst (-1), 1) := by decide +kernel
theorem dX9_tally_48 : decode cX9_tally 48 = .ok (.sipush 256, 3) := by decide +kernel
theorem dX9_tally_51 : decode cX9_tally 51 = .ok (.invokestatic 66, 3) := by decide +kernel
theorem dX9_tally_54 : decode cX9_tally 54 = .ok (.ifCond .ne 6, 3) := by decide +kernel
theorem dX9_tally_57 : decode cX9_tally 57 = .ok (.ldc 70, 2) := by decide +kernel
theorem dX9_tally_59 : decode cX9_tally 59 = .ok (.ireturn, 1) := by decide +kernel
theorem dX9_tally_60 : decode cX9_tally 60 = .ok (.aload_n 0, 1) := by decide +kernel
theorem dX9_tally_61 : decode cX9_tally 61 = .ok (.getfield 19, 3) := by decide +kernel
theorem dX9_tally_64 : decode cX9_tally 64 = .ok (.getfield 86, 3) := by decide +kernel
theorem dX9_tally_67 : decode cX9_tally 67 = .ok (.iload_n 1, 1) := by decide +kernel
theorem dX9_tally_68 : decode cX9_tally 68 = .ok (.iload_n 2, 1) := by decide +kernel
theorem dX9_tally_69 : decode cX9_tally 69 = .ok (.iload_n 3, 1) := by decide +kernel
theorem dX9_tally_70 : decode cX9_tally 70 = .ok (.iload 4, 2) := by decide +kernel
theorem dX9_tally_72 : decode cX9_tally 72 = .ok (.iload 5, 2) := by decide +kernel
theorem dX9_tally_74 : decode cX9_tally 74 = .ok (.invokevirtual 149, 3) := by decide +kernel
theorem dX9_tally_77 : decode cX9_tally 77 = .ok (.ireturn, 1) := by decide +kernel
theorem dX9_filter_0 : decode cX9_filter 0 = .ok (.iload_n 1, 1) := by decide +kernel
theorem dX9_filter_1 : decode cX9_filter 1 = .ok (.iconst 0, 1) := by decide +kernel
theorem dX9_filter_2 : decode cX9_filter 2 = .ok (.iconst 4, 1) := by decide +kernel
theorem dX9_filter_3 : decode cX9_filter 3 = .ok (.invokestatic 66, 3) := by decide +kernel
theorem dX9_filter_6 : decode cX9_filter 6 = .ok (.ifCond .eq 22, 3) := by decide +kernel
theorem dX9_filter_9 : decode cX9_filter 9 = .ok (.iload_n 2, 1) := by decide +kernel
theorem dX9_filter_10 : decode cX9_filter 10 = .ok (.iconst 0, 1) := by decide +kernel
theorem dX9_filter_11 : decode cX9_filter 11 = .ok (.iconst 4, 1) := by decide +kernel
theorem dX9_filter_12 : decode cX9_filter 12 = .ok (.invokestatic 66, 3) := by decide +kernel
theorem dX9_filter_15 : decode cX9_filter 15 = .ok (.ifCond .eq 13, 3) := by decide +kernel
theorem dX9_filter_18 : decode cX9_filter 18 = .ok (.iload_n 3, 1) := by decide +kernel
theorem dX9_filter_19 : decode cX9_filter 19 = .ok (.iconst 0, 1) := by decide +kernel
theorem dX9_filter_20 : decode cX9_filter 20 = .ok (.bipush 100, 2) := by decide +kernel
theorem dX9_filter_22 : decode cX9_filter 22 = .ok (.invokestatic 66, 3) := by decide +kernel
theorem dX9_filter_25 : decode cX9_filter 25 = .ok (.ifCond .ne 6, 3) := by decide +kernel
theorem dX9_filter_28 : decode cX9_filter 28 = .ok (.ldc 70, 2) := by decide +kernel
theorem dX9_filter_30 : decode cX9_filter 30 = .ok (.ireturn, 1) := by decide +kernel
theorem dX9_filter_31 : decode cX9_filter 31 = .ok (.iload 4, 2) := by decide +kernel
theorem dX9_filter_33 : decode cX9_filter 33 = .ok (.iconst 0, 1) := by decide +kernel
theorem dX9_filter_34 : decode cX9_filter 34 = .ok (.iconst 4, 1) := by decide +kernel
theorem dX9_filter_35 : decode cX9_filter 35 = .ok (.invokestatic 66, 3) := by decide +kernel
theorem dX9_filter_38 : decode cX9_filter 38 = .ok (.ifCond .eq 14, 3) := by decide +kernel
theorem dX9_filter_41 : decode cX9_filter 41 = .ok (.iload 5, 2) := by decide +kernel
theorem dX9_filter_43 : decode cX9_filter 43 = .ok (.iconst 1, 1) := by decide +kernel
theorem dX9_filter_44 : decode cX9_filter 44 = .ok (.bipush 9, 2) := by decide +kernel
theorem dX9_filter_46 : decode cX9_filter 46 = .ok (.invokestatic 66, 3) := by decide +kernel
theorem dX9_filter_49 : decode cX9_filter 49 = .ok (.ifCond .ne 6, 3) := by decide +kernel
theorem dX9_filter_52 : decode cX9_filter 52 = .ok (.ldc 70, 2) := by decide +kernel
theorem dX9_filter_54 : decode cX9_filter 54 = .ok (.ireturn, 1) := by decide +kernel
theorem dX9_filter_55 : decode cX9_filter 55 = .ok (.aload_n 0, 1) := by decide +kernel
theorem dX9_filter_56 : decode cX9_filter 56 = .ok (.getfield 19, 3) := by decide +kernel
theorem dX9_filter_59 : decode cX9_filter 59 = .ok (.getfield 120, 3) := by decide +kernel
theorem dX9_filter_62 : decode cX9_filter 62 = .ok (.invokevirtual 153, 3) := by decide +kernel
theorem dX9_filter_65 : decode cX9_filter 65 = .ok (.ifCond .eq 6, 3) := by decide +kernel
theorem dX9_filter_68 : decode cX9_filter 68 = .ok (.ldc 157, 2) := by decide +kernel
theorem dX9_filter_70 : decode cX9_filter 70 = .ok (.ireturn, 1) := by decide +kernel
theorem dX9_filter_71 : decode cX9_filter 71 = .ok (.aload_n 0, 1) := by decide +kernel
theorem dX9_filter_72 : decode cX9_filter 72 = .ok (.getfield 19, 3) := by decide +kernel
theorem dX9_filter_75 : decode cX9_filter 75 = .ok (.getfield 120, 3) := by decide +kernel
theorem dX9_filter_78 : decode cX9_filter 78 = .ok (.new 158, 3) := by decide +kernel
theorem dX9_filter_81 : decode cX9_filter 81 = .ok (.dup, 1) := by decide +kernel
theorem dX9_filter_82 : decode cX9_filter 82 = .ok (.iload_n 1, 1) := by decide +kernel
theorem dX9_filter_83 : decode cX9_filter 83 = .ok (.iload_n 2, 1) := by decide +kernel
theorem dX9_filter_84 : decode cX9_filter 84 = .ok (.iload_n 3, 1) := by decide +kernel
theorem dX9_filter_85 : decode cX9_filter 85 = .ok (.iload 4, 2) := by decide +kernel
theorem dX9_filter_87 : decode cX9_filter 87 = .ok (.iload 5, 2) := by decide +kernel
theorem dX9_filter_89 : decode cX9_filter 89 = .ok (.invokespecial 160, 3) := by decide +kernel
theorem dX9_filter_92 : decode cX9_filter 92 = .ok (.invokevirtual 163, 3) := by decide +kernel
theorem dX9_filter_95 : decode cX9_filter 95 = .ok (.ireturn, 1) := by decide +kernel
theorem dX9_drop_0 : decode cX9_drop 0 = .ok (.aload_n 0, 1) := by decide +kernel
theorem dX9_drop_1 : decode cX9_drop 1 = .ok (.getfield 19, 3) := by decide +kernel
theorem dX9_drop_4 : decode cX9_drop 4 = .ok (.getfield 120, 3) := by decide +kernel
theorem dX9_drop_7 : decode cX9_drop 7 = .ok (.iload_n 1, 1) := by decide +kernel
theorem dX9_drop_8 : decode cX9_drop 8 = .ok (.invokevirtual 167, 3) := by decide +kernel
theorem dX9_drop_11 : decode cX9_drop 11 = .ok (.ifnonnull 6, 3) := by decide +kernel
theorem dX9_drop_14 : decode cX9_drop 14 = .ok (.ldc 141, 2) := by decide +kernel
theorem dX9_drop_16 : decode cX9_drop 16 = .ok (.ireturn, 1) := by decide +kernel
theorem dX9_drop_17 : decode cX9_drop 17 = .ok (.aload_n 0, 1) := by decide +kernel
theorem dX9_drop_18 : decode cX9_drop 18 = .ok (.getfield 19, 3) := by decide +kernel
theorem dX9_drop_21 : decode cX9_drop 21 = .ok (.getfield 120, 3) := by decide +kernel
theorem dX9_drop_24 : decode cX9_drop 24 = .ok (.iload_n 1, 1) := by decide +kernel
theorem dX9_drop_25 : decode cX9_drop 25 = .ok (.invokevirtual 171, 3) := by decide +kernel
theorem dX9_drop_28 : decode cX9_drop 28 = .ok (.ireturn, 1) := by decide +kernel
theorem dX9_fill_0 : decode cX9_fill 0 = .ok (.iload_n 1, 1) := by decide +kernel
theorem dX9_fill_1 : decode cX9_fill 1 = .ok (.iconst 0, 1) := by decide +kernel
theorem dX9_fill_2 : decode cX9_fill 2 = .ok (.sipush 255, 3) := by decide +kernel
theorem dX9_fill_5 : decode cX9_fill 5 = .ok (.invokestatic 66, 3) := by decide +kernel
theorem dX9_fill_8 : decode cX9_fill 8 = .ok (.ifCond .ne 6, 3) := by decide +kernel
theorem dX9_fill_11 : decode cX9_fill 11 = .ok (.ldc 70, 2) := by decide +kernel
theorem dX9_fill_13 : decode cX9_fill 13 = .ok (.ireturn, 1) := by decide +kernel
theorem dX9_fill_14 : decode cX9_fill 14 = .ok (.aload_n 0, 1) := by decide +kernel
theorem dX9_fill_15 : decode cX9_fill 15 = .ok (.getfield 19, 3) := by decide +kernel
theorem dX9_fill_18 : decode cX9_fill 18 = .ok (.getfield 129, 3) := by decide +kernel
theorem dX9_fill_21 : decode cX9_fill 21 = .ok (.istore_n 2, 1) := by decide +kernel
theorem dX9_fill_22 : decode cX9_fill 22 = .ok (.aload_n 0, 1) := by decide +kernel
theorem dX9_fill_23 : decode cX9_fill 23 = .ok (.getfield 19, 3) := by decide +kernel
theorem dX9_fill_26 : decode cX9_fill 26 = .ok (.iload_n 1, 1) := by decide +kernel
theorem dX9_fill_27 : decode cX9_fill 27 = .ok (.putfield 129, 3) := by decide +kernel
theorem dX9_fill_30 : decode cX9_fill 30 = .ok (.iload_n 2, 1) := by decide +kernel
theorem dX9_fill_31 : decode cX9_fill 31 = .ok (.ireturn, 1) := by decide +kernel
theorem dX9_would_0 : decode cX9_would 0 = .ok (.aload_n 0, 1) := by decide +kernel
theorem dX9_would_1 : decode cX9_would 1 = .ok (.getfield 19, 3) := by decide +kernel
theorem dX9_would_4 : decode cX9_would 4 = .ok (.getfield 120, 3) := by decide +kernel
theorem dX9_would_7 : decode cX9_would 7 = .ok (.iload_n 1, 1) := by decide +kernel
theorem dX9_would_8 : decode cX9_would 8 = .ok (.invokevirtual 167, 3) := by decide +kernel
theorem dX9_would_11 : decode cX9_would 11 = .ok (.astore 5, 2) := by decide +kernel
theorem dX9_would_13 : decode cX9_would 13 = .ok (.aload 5, 2) := by decide +kernel
theorem dX9_would_15 : decode cX9_would 15 = .ok (.ifnull 18, 3) := by decide +kernel
theorem dX9_would_18 : decode cX9_would 18 = .ok (.aload_n 0, 1) := by decide +kernel
theorem dX9_would_19 : decode cX9_would 19 = .ok (.getfield 19, 3) := by decide +kernel
theorem dX9_would_22 : decode cX9_would 22 = .ok (.getfield 86, 3) := by decide +kernel
theorem dX9_would_25 : decode cX9_would 25 = .ok (.iload_n 2, 1) := by decide +kernel
theorem dX9_would_26 : decode cX9_would 26 = .ok (.iload_n 3, 1) := by decide +kernel
theorem dX9_would_27 : decode cX9_would 27 = .ok (.invokevirtual 137, 3) := by decide +kernel
theorem dX9_would_30 : decode cX9_would 30 = .ok (.ifCond .ne 6, 3) := by decide +kernel
theorem dX9_would_33 : decode cX9_would 33 = .ok (.ldc 141, 2) := by decide +kernel
theorem dX9_would_35 : decode cX9_would 35 = .ok (.ireturn, 1) := by decide +kernel
theorem dX9_would_36 : decode cX9_would 36 = .ok (.iload 4, 2) := by decide +kernel
theorem dX9_would_38 : decode cX9_would 38 = .ok (.iconst 0, 1) := by decide +kernel
theorem dX9_would_39 : decode cX9_would 39 = .ok (.iconst 3, 1) := by decide +kernel
theorem dX9_would_40 : decode cX9_would 40 = .ok (.invokestatic 66, 3) := by decide +kernel
theorem dX9_would_43 : decode cX9_would 43 = .ok (.ifCond .ne 6, 3) := by decide +kernel
theorem dX9_would_46 : decode cX9_would 46 = .ok (.ldc 70, 2) := by decide +kernel
theorem dX9_would_48 : decode cX9_would 48 = .ok (.ireturn, 1) := by decide +kernel
theorem dX9_would_49 : decode cX9_would 49 = .ok (.aload_n 0, 1) := by decide +kernel
theorem dX9_would_50 : decode cX9_would 50 = .ok (.getfield 48, 3) := by decide +kernel
theorem dX9_would_53 : decode cX9_would 53 = .ok (.aload_n 0, 1) := by decide +kernel
theorem dX9_would_54 : decode cX9_would 54 = .ok (.getfield 19, 3) := by decide +kernel
theorem dX9_would_57 : decode cX9_would 57 = .ok (.getfield 86, 3) := by decide +kernel
theorem dX9_would_60 : decode cX9_would 60 = .ok (.aload 5, 2) := by decide +kernel
theorem dX9_would_62 : decode cX9_would 62 = .ok (.aload_n 0, 1) := by decide +kernel
theorem dX9_would_63 : decode cX9_would 63 = .ok (.getfield 19, 3) := by decide +kernel
theorem dX9_would_66 : decode cX9_would 66 = .ok (.getfield 129, 3) := by decide +kernel
theorem dX9_would_69 : decode cX9_would 69 = .ok (.iload_n 2, 1) := by decide +kernel
theorem dX9_would_70 : decode cX9_would 70 = .ok (.iload_n 3, 1) := by decide +kernel
theorem dX9_would_71 : decode cX9_would 71 = .ok (.invokevirtual 174, 3) := by decide +kernel
theorem dX9_would_74 : decode cX9_would 74 = .ok (.iload 4, 2) := by decide +kernel
theorem dX9_would_76 : decode cX9_would 76 = .ok (.tableswitch 69 0 2 #[28, 41, 49], 28) := by decide +kernel
theorem dX9_would_104 : decode cX9_would 104 = .ok (.aload_n 0, 1) := by decide +kernel
theorem dX9_would_105 : decode cX9_would 105 = .ok (.getfield 48, 3) := by decide +kernel
theorem dX9_would_108 : decode cX9_would 108 = .ok (.aload 5, 2) := by decide +kernel
theorem dX9_would_110 : decode cX9_would 110 = .ok (.getfield 178, 3) := by decide +kernel
theorem dX9_would_113 : decode cX9_would 113 = .ok (.invokevirtual 181, 3) := by decide +kernel
theorem dX9_would_116 : decode cX9_would 116 = .ok (.ireturn, 1) := by decide +kernel
theorem dX9_would_117 : decode cX9_would 117 = .ok (.aload_n 0, 1) := by decide +kernel
theorem dX9_would_118 : decode cX9_would 118 = .ok (.getfield 48, 3) := by decide +kernel
theorem dX9_would_121 : decode cX9_would 121 = .ok (.getfield 184, 3) := by decide +kernel
theorem dX9_would_124 : decode cX9_would 124 = .ok (.ireturn, 1) := by decide +kernel
theorem dX9_would_125 : decode cX9_would 125 = .ok (.aload_n 0, 1) := by decide +kernel
theorem dX9_would_126 : decode cX9_would 126 = .ok (.getfield 48, 3) := by decide +kernel
theorem dX9_would_129 : decode cX9_would 129 = .ok (.aload_n 0, 1) := by decide +kernel
theorem dX9_would_130 : decode cX9_would 130 = .ok (.getfield 19, 3) := by decide +kernel
theorem dX9_would_133 : decode cX9_would 133 = .ok (.getfield 86, 3) := by decide +kernel
theorem dX9_would_136 : decode cX9_would 136 = .ok (.iload_n 2, 1) := by decide +kernel
theorem dX9_would_137 : decode cX9_would 137 = .ok (.iload_n 3, 1) := by decide +kernel
theorem dX9_would_138 : decode cX9_would 138 = .ok (.invokevirtual 142, 3) := by decide +kernel
theorem dX9_would_141 : decode cX9_would 141 = .ok (.invokevirtual 187, 3) := by decide +kernel
theorem dX9_would_144 : decode cX9_would 144 = .ok (.ireturn, 1) := by decide +kernel
theorem dX9_would_145 : decode cX9_would 145 = .ok (.aload_n 0, 1) := by decide +kernel
theorem dX9_would_146 : decode cX9_would 146 = .ok (.getfield 48, 3) := by decide +kernel
theorem dX9_would_149 : decode cX9_would 149 = .ok (.invokevirtual 190, 3) := by decide +kernel
theorem dX9_would_152 : decode cX9_would 152 = .ok (.ireturn, 1) := by decide +kernel
theorem dX9_bins_0 : decode cX9_bins 0 = .ok (.aload_n 0, 1) := by decide +kernel
theorem dX9_bins_1 : decode cX9_bins 1 = .ok (.getfield 19, 3) := by decide +kernel
theorem dX9_bins_4 : decode cX9_bins 4 = .ok (.getfield 120, 3) := by decide +kernel
theorem dX9_bins_7 : decode cX9_bins 7 = .ok (.iload_n 1, 1) := by decide +kernel
theorem dX9_bins_8 : decode cX9_bins 8 = .ok (.invokevirtual 167, 3) := by decide +kernel
theorem dX9_bins_11 : decode cX9_bins 11 = .ok (.astore_n 2, 1) := by decide +kernel
theorem dX9_bins_12 : decode cX9_bins 12 = .ok (.aload_n 2, 1) := by decide +kernel
theorem dX9_bins_13 : decode cX9_bins 13 = .ok (.ifnonnull 6, 3) := by decide +kernel
theorem dX9_bins_16 : decode cX9_bins 16 = .ok (.ldc 141, 2) := by decide +kernel
theorem dX9_bins_18 : decode cX9_bins 18 = .ok (.ireturn, 1) := by decide +kernel
theorem dX9_bins_19 : decode cX9_bins 19 = .ok (.iconst 0, 1) := by decide +kernel
theorem dX9_bins_20 : decode cX9_bins 20 = .ok (.istore_n 3, 1) := by decide +kernel
theorem dX9_bins_21 : decode cX9_bins 21 = .ok (.iconst 0, 1) := by decide +kernel
theorem dX9_bins_22 : decode cX9_bins 22 = .ok (.istore 4, 2) := by decide +kernel
theorem dX9_bins_24 : decode cX9_bins 24 = .ok (.iload 4, 2) := by decide +kernel
theorem dX9_bins_26 : decode cX9_bins 26 = .ok (.aload_n 0, 1) := by decide +kernel
theorem dX9_bins_27 : decode cX9_bins 27 = .ok (.getfield 19, 3) := by decide +kernel
theorem dX9_bins_30 : decode cX9_bins 30 = .ok (.getfield 86, 3) := by decide +kernel
theorem dX9_bins_33 : decode cX9_bins 33 = .ok (.getfield 102, 3) := by decide +kernel
theorem dX9_bins_36 : decode cX9_bins 36 = .ok (.if_icmp .ge 77, 3) := by decide +kernel
theorem dX9_bins_39 : decode cX9_bins 39 = .ok (.iconst 0, 1) := by decide +kernel
theorem dX9_bins_40 : decode cX9_bins 40 = .ok (.istore 5, 2) := by decide +kernel
theorem dX9_bins_42 : decode cX9_bins 42 = .ok (.iload 5, 2) := by decide +kernel
theorem dX9_bins_44 : decode cX9_bins 44 = .ok (.aload_n 0, 1) := by decide +kernel
theorem dX9_bins_45 : decode cX9_bins 45 = .ok (.getfield 19, 3) := by decide +kernel
theorem dX9_bins_48 : decode cX9_bins 48 = .ok (.getfield 86, 3) := by decide +kernel
theorem dX9_bins_51 : decode cX9_bins 51 = .ok (.getfield 99, 3) := by decide +kernel
theorem dX9_bins_54 : decode cX9_bins 54 = .ok (.if_icmp .ge 53, 3) := by decide +kernel
theorem dX9_bins_57 : decode cX9_bins 57 = .ok (.aload_n 0, 1) := by decide +kernel
theorem dX9_bins_58 : decode cX9_bins 58 = .ok (.getfield 19, 3) := by decide +kernel
theorem dX9_bins_61 : decode cX9_bins 61 = .ok (.getfield 86, 3) := by decide +kernel
theorem dX9_bins_64 : decode cX9_bins 64 = .ok (.iload 5, 2) := by decide +kernel
theorem dX9_bins_66 : decode cX9_bins 66 = .ok (.iload 4, 2) := by decide +kernel
theorem dX9_bins_68 : decode cX9_bins 68 = .ok (.invokevirtual 146, 3) := by decide +kernel
theorem dX9_bins_71 : decode cX9_bins 71 = .ok (.ifCond .ne 30, 3) := by decide +kernel
theorem dX9_bins_74 : decode cX9_bins 74 = .ok (.aload_n 0, 1) := by decide +kernel
theorem dX9_bins_75 : decode cX9_bins 75 = .ok (.aload_n 2, 1) := by decide +kernel
theorem dX9_bins_76 : decode cX9_bins 76 = .ok (.iload 5, 2) := by decide +kernel
theorem dX9_bins_78 : decode cX9_bins 78 = .ok (.iload 4, 2) := by decide +kernel
theorem dX9_bins_80 : decode cX9_bins 80 = .ok (.invokevirtual 193, 3) := by decide +kernel
theorem dX9_bins_83 : decode cX9_bins 83 = .ok (.istore 6, 2) := by decide +kernel
theorem dX9_bins_85 : decode cX9_bins 85 = .ok (.iload_n 3, 1) := by decide +kernel
theorem dX9_bins_86 : decode cX9_bins 86 = .ok (.iload 6, 2) := by decide +kernel
theorem dX9_bins_88 : decode cX9_bins 88 = .ok (.bipush 16, 2) := by decide +kernel
theorem dX9_bins_90 : decode cX9_bins 90 = .ok (.idiv, 1) := by decide +kernel
theorem dX9_bins_91 : decode cX9_bins 91 = .ok (.iload 6, 2) := by decide +kernel
theorem dX9_bins_93 : decode cX9_bins 93 = .ok (.bipush 16, 2) := by decide +kernel
theorem dX9_bins_95 : decode cX9_bins 95 = .ok (.irem, 1) := by decide +kernel
theorem dX9_bins_96 : decode cX9_bins 96 = .ok (.iadd, 1) := by decide +kernel
theorem dX9_bins_97 : decode cX9_bins 97 = .ok (.iconst 2, 1) := by decide +kernel
theorem dX9_bins_98 : decode cX9_bins 98 = .ok (.iadd, 1) := by decide +kernel
theorem dX9_bins_99 : decode cX9_bins 99 = .ok (.iadd, 1) := by decide +kernel
theorem dX9_bins_100 : decode cX9_bins 100 = .ok (.istore_n 3, 1) := by decide +kernel
theorem dX9_bins_101 : decode cX9_bins 101 = .ok (.iinc 5 1, 3) := by decide +kernel
theorem dX9_bins_104 : decode cX9_bins 104 = .ok (.goto (-62), 3) := by decide +kernel
theorem dX9_bins_107 : decode cX9_bins 107 = .ok (.iinc 4 1, 3) := by decide +kernel
theorem dX9_bins_110 : decode cX9_bins 110 = .ok (.goto (-86), 3) := by decide +kernel
theorem dX9_bins_113 : decode cX9_bins 113 = .ok (.iload_n 3, 1) := by decide +kernel
theorem dX9_bins_114 : decode cX9_bins 114 = .ok (.ireturn, 1) := by decide +kernel
theorem dX9_spikes_0 : decode cX9_spikes 0 = .ok (.aload_n 0, 1) := by decide +kernel
theorem dX9_spikes_1 : decode cX9_spikes 1 = .ok (.getfield 19, 3) := by decide +kernel
theorem dX9_spikes_4 : decode cX9_spikes 4 = .ok (.getfield 120, 3) := by decide +kernel
theorem dX9_spikes_7 : decode cX9_spikes 7 = .ok (.iload_n 1, 1) := by decide +kernel
theorem dX9_spikes_8 : decode cX9_spikes 8 = .ok (.invokevirtual 167, 3) := by decide +kernel
theorem dX9_spikes_11 : decode cX9_spikes 11 = .ok (.astore_n 3, 1) := by decide +kernel
theorem dX9_spikes_12 : decode cX9_spikes 12 = .ok (.aload_n 3, 1) := by decide +kernel
theorem dX9_spikes_13 : decode cX9_spikes 13 = .ok (.ifnonnull 6, 3) := by decide +kernel
theorem dX9_spikes_16 : decode cX9_spikes 16 = .ok (.ldc 141, 2) := by decide +kernel
theorem dX9_spikes_18 : decode cX9_spikes 18 = .ok (.ireturn, 1) := by decide +kernel
theorem dX9_spikes_19 : decode cX9_spikes 19 = .ok (.iload_n 2, 1) := by decide +kernel
theorem dX9_spikes_20 : decode cX9_spikes 20 = .ok (.iconst 0, 1) := by decide +kernel
theorem dX9_spikes_21 : decode cX9_spikes 21 = .ok (.sipush 255, 3) := by decide +kernel
theorem dX9_spikes_24 : decode cX9_spikes 24 = .ok (.invokestatic 66, 3) := by decide +kernel
theorem dX9_spikes_27 : decode cX9_spikes 27 = .ok (.ifCond .ne 6, 3) := by decide +kernel
theorem dX9_spikes_30 : decode cX9_spikes 30 = .ok (.ldc 70, 2) := by decide +kernel
theorem dX9_spikes_32 : decode cX9_spikes 32 = .ok (.ireturn, 1) := by decide +kernel
theorem dX9_spikes_33 : decode cX9_spikes 33 = .ok (.iconst 0, 1) := by decide +kernel
theorem dX9_spikes_34 : decode cX9_spikes 34 = .ok (.istore 4, 2) := by decide +kernel
theorem dX9_spikes_36 : decode cX9_spikes 36 = .ok (.iconst 0, 1) := by decide +kernel
theorem dX9_spikes_37 : decode cX9_spikes 37 = .ok (.istore 5, 2) := by decide +kernel
theorem dX9_spikes_39 : decode cX9_spikes 39 = .ok (.iload 5, 2) := by decide +kernel
theorem dX9_spikes_41 : decode cX9_spikes 41 = .ok (.aload_n 0, 1) := by decide +kernel
theorem dX9_spikes_42 : decode cX9_spikes 42 = .ok (.getfield 19, 3) := by decide +kernel
theorem dX9_spikes_45 : decode cX9_spikes 45 = .ok (.getfield 86, 3) := by decide +kernel
theorem dX9_spikes_48 : decode cX9_spikes 48 = .ok (.getfield 102, 3) := by decide +kernel
theorem dX9_spikes_51 : decode cX9_spikes 51 = .ok (.if_icmp .ge 84, 3) := by decide +kernel
theorem dX9_spikes_54 : decode cX9_spikes 54 = .ok (.iconst 0, 1) := by decide +kernel
theorem dX9_spikes_55 : decode cX9_spikes 55 = .ok (.istore 6, 2) := by decide +kernel
theorem dX9_spikes_57 : decode cX9_spikes 57 = .ok (.iload 6, 2) := by decide +kernel
theorem dX9_spikes_59 : decode cX9_spikes 59 = .ok (.aload_n 0, 1) := by decide +kernel
theorem dX9_spikes_60 : decode cX9_spikes 60 = .ok (.getfield 19, 3) := by decide +kernel
theorem dX9_spikes_63 : decode cX9_spikes 63 = .ok (.getfield 86, 3) := by decide +kernel
theorem dX9_spikes_66 : decode cX9_spikes 66 = .ok (.getfield 99, 3) := by decide +kernel
theorem dX9_spikes_69 : decode cX9_spikes 69 = .ok (.if_icmp .ge 60, 3) := by decide +kernel
theorem dX9_spikes_72 : decode cX9_spikes 72 = .ok (.aload_n 0, 1) := by decide +kernel
theorem dX9_spikes_73 : decode cX9_spikes 73 = .ok (.getfield 19, 3) := by decide +kernel
theorem dX9_spikes_76 : decode cX9_spikes 76 = .ok (.getfield 86, 3) := by decide +kernel
theorem dX9_spikes_79 : decode cX9_spikes 79 = .ok (.iload 6, 2) := by decide +kernel
theorem dX9_spikes_81 : decode cX9_spikes 81 = .ok (.iload 5, 2) := by decide +kernel
theorem dX9_spikes_83 : decode cX9_spikes 83 = .ok (.invokevirtual 146, 3) := by decide +kernel
theorem dX9_spikes_86 : decode cX9_spikes 86 = .ok (.ifCond .ne 37, 3) := by decide +kernel
theorem dX9_spikes_89 : decode cX9_spikes 89 = .ok (.aload_n 0, 1) := by decide +kernel
theorem dX9_spikes_90 : decode cX9_spikes 90 = .ok (.getfield 19, 3) := by decide +kernel
theorem dX9_spikes_93 : decode cX9_spikes 93 = .ok (.getfield 86, 3) := by decide +kernel
theorem dX9_spikes_96 : decode cX9_spikes 96 = .ok (.iload 6, 2) := by decide +kernel
theorem dX9_spikes_98 : decode cX9_spikes 98 = .ok (.iload 5, 2) := by decide +kernel
theorem dX9_spikes_100 : decode cX9_spikes 100 = .ok (.invokevirtual 142, 3) := by decide +kernel
theorem dX9_spikes_103 : decode cX9_spikes 103 = .ok (.aload_n 0, 1) := by decide +kernel
theorem dX9_spikes_104 : decode cX9_spikes 104 = .ok (.aload_n 3, 1) := by decide +kernel
theorem dX9_spikes_105 : decode cX9_spikes 105 = .ok (.iload 6, 2) := by decide +kernel
theorem dX9_spikes_107 : decode cX9_spikes 107 = .ok (.iload 5, 2) := by decide +kernel
theorem dX9_spikes_109 : decode cX9_spikes 109 = .ok (.invokevirtual 193, 3) := by decide +kernel
theorem dX9_spikes_112 : decode cX9_spikes 112 = .ok (.isub, 1) := by decide +kernel
theorem dX9_spikes_113 : decode cX9_spikes 113 = .ok (.invokestatic 197, 3) := by decide +kernel
theorem dX9_spikes_116 : decode cX9_spikes 116 = .ok (.iload_n 2, 1) := by decide +kernel
theorem dX9_spikes_117 : decode cX9_spikes 117 = .ok (.if_icmp .le 6, 3) := by decide +kernel
theorem dX9_spikes_120 : decode cX9_spikes 120 = .ok (.iinc 4 1, 3) := by decide +kernel
theorem dX9_spikes_123 : decode cX9_spikes 123 = .ok (.iinc 6 1, 3) := by decide +kernel
theorem dX9_spikes_126 : decode cX9_spikes 126 = .ok (.goto (-69), 3) := by decide +kernel
theorem dX9_spikes_129 : decode cX9_spikes 129 = .ok (.iinc 5 1, 3) := by decide +kernel
theorem dX9_spikes_132 : decode cX9_spikes 132 = .ok (.goto (-93), 3) := by decide +kernel
theorem dX9_spikes_135 : decode cX9_spikes 135 = .ok (.iload 4, 2) := by decide +kernel
theorem dX9_spikes_137 : decode cX9_spikes 137 = .ok (.ireturn, 1) := by decide +kernel
theorem dX9_dot_0 : decode cX9_dot 0 = .ok (.aload_n 0, 1) := by decide +kernel
theorem dX9_dot_1 : decode cX9_dot 1 = .ok (.getfield 19, 3) := by decide +kernel
theorem dX9_dot_4 : decode cX9_dot 4 = .ok (.getfield 86, 3) := by decide +kernel
theorem dX9_dot_7 : decode cX9_dot 7 = .ok (.iload_n 1, 1) := by decide +kernel
theorem dX9_dot_8 : decode cX9_dot 8 = .ok (.iload_n 2, 1) := by decide +kernel
theorem dX9_dot_9 : decode cX9_dot 9 = .ok (.invokevirtual 137, 3) := by decide +kernel
theorem dX9_dot_12 : decode cX9_dot 12 = .ok (.ifCond .ne 6, 3) := by decide +kernel
theorem dX9_dot_15 : decode cX9_dot 15 = .ok (.ldc 141, 2) := by decide +kernel
theorem dX9_dot_17 : decode cX9_dot 17 = .ok (.ireturn, 1) := by decide +kernel
theorem dX9_dot_18 : decode cX9_dot 18 = .ok (.iload_n 3, 1) := by decide +kernel
theorem dX9_dot_19 : decode cX9_dot 19 = .ok (.iconst 0, 1) := by decide +kernel
theorem dX9_dot_20 : decode cX9_dot 20 = .ok (.sipush 255, 3) := by decide +kernel
theorem dX9_dot_23 : decode cX9_dot 23 = .ok (.invokestatic 66, 3) := by decide +kernel
theorem dX9_dot_26 : decode cX9_dot 26 = .ok (.ifCond .ne 6, 3) := by decide +kernel
theorem dX9_dot_29 : decode cX9_dot 29 = .ok (.ldc 70, 2) := by decide +kernel
theorem dX9_dot_31 : decode cX9_dot 31 = .ok (.ireturn, 1) := by decide +kernel
theorem dX9_dot_32 : decode cX9_dot 32 = .ok (.aload_n 0, 1) := by decide +kernel
theorem dX9_dot_33 : decode cX9_dot 33 = .ok (.getfield 34, 3) := by decide +kernel
theorem dX9_dot_36 : decode cX9_dot 36 = .ok (.aload_n 0, 1) := by decide +kernel
theorem dX9_dot_37 : decode cX9_dot 37 = .ok (.getfield 19, 3) := by decide +kernel
theorem dX9_dot_40 : decode cX9_dot 40 = .ok (.getfield 86, 3) := by decide +kernel
theorem dX9_dot_43 : decode cX9_dot 43 = .ok (.invokevirtual 89, 3) := by decide +kernel
theorem dX9_dot_46 : decode cX9_dot 46 = .ok (.aload_n 0, 1) := by decide +kernel
theorem dX9_dot_47 : decode cX9_dot 47 = .ok (.getfield 19, 3) := by decide +kernel
theorem dX9_dot_50 : decode cX9_dot 50 = .ok (.getfield 86, 3) := by decide +kernel
theorem dX9_dot_53 : decode cX9_dot 53 = .ok (.iload_n 1, 1) := by decide +kernel
theorem dX9_dot_54 : decode cX9_dot 54 = .ok (.iload_n 2, 1) := by decide +kernel
theorem dX9_dot_55 : decode cX9_dot 55 = .ok (.invokevirtual 142, 3) := by decide +kernel
theorem dX9_dot_58 : decode cX9_dot 58 = .ok (.istore 4, 2) := by decide +kernel
theorem dX9_dot_60 : decode cX9_dot 60 = .ok (.aload_n 0, 1) := by decide +kernel
theorem dX9_dot_61 : decode cX9_dot 61 = .ok (.getfield 19, 3) := by decide +kernel
theorem dX9_dot_64 : decode cX9_dot 64 = .ok (.getfield 86, 3) := by decide +kernel
theorem dX9_dot_67 : decode cX9_dot 67 = .ok (.iload_n 1, 1) := by decide +kernel
theorem dX9_dot_68 : decode cX9_dot 68 = .ok (.iload_n 2, 1) := by decide +kernel
theorem dX9_dot_69 : decode cX9_dot 69 = .ok (.iload_n 3, 1) := by decide +kernel
theorem dX9_dot_70 : decode cX9_dot 70 = .ok (.invokevirtual 202, 3) := by decide +kernel
theorem dX9_dot_73 : decode cX9_dot 73 = .ok (.iload 4, 2) := by decide +kernel
theorem dX9_dot_75 : decode cX9_dot 75 = .ok (.ireturn, 1) := by decide +kernel
theorem dX9_mask_0 : decode cX9_mask 0 = .ok (.aload_n 0, 1) := by decide +kernel
theorem dX9_mask_1 : decode cX9_mask 1 = .ok (.getfield 19, 3) := by decide +kernel
theorem dX9_mask_4 : decode cX9_mask 4 = .ok (.getfield 86, 3) := by decide +kernel
theorem dX9_mask_7 : decode cX9_mask 7 = .ok (.iload_n 1, 1) := by decide +kernel
theorem dX9_mask_8 : decode cX9_mask 8 = .ok (.iload_n 2, 1) := by decide +kernel
theorem dX9_mask_9 : decode cX9_mask 9 = .ok (.invokevirtual 137, 3) := by decide +kernel
theorem dX9_mask_12 : decode cX9_mask 12 = .ok (.ifCond .ne 6, 3) := by decide +kernel
theorem dX9_mask_15 : decode cX9_mask 15 = .ok (.ldc 141, 2) := by decide +kernel
theorem dX9_mask_17 : decode cX9_mask 17 = .ok (.ireturn, 1) := by decide +kernel
theorem dX9_mask_18 : decode cX9_mask 18 = .ok (.aload_n 0, 1) := by decide +kernel
theorem dX9_mask_19 : decode cX9_mask 19 = .ok (.getfield 34, 3) := by decide +kernel
theorem dX9_mask_22 : decode cX9_mask 22 = .ok (.aload_n 0, 1) := by decide +kernel
theorem dX9_mask_23 : decode cX9_mask 23 = .ok (.getfield 19, 3) := by decide +kernel
theorem dX9_mask_26 : decode cX9_mask 26 = .ok (.getfield 86, 3) := by decide +kernel
theorem dX9_mask_29 : decode cX9_mask 29 = .ok (.invokevirtual 89, 3) := by decide +kernel
theorem dX9_mask_32 : decode cX9_mask 32 = .ok (.aload_n 0, 1) := by decide +kernel
theorem dX9_mask_33 : decode cX9_mask 33 = .ok (.getfield 19, 3) := by decide +kernel
theorem dX9_mask_36 : decode cX9_mask 36 = .ok (.getfield 86, 3) := by decide +kernel
theorem dX9_mask_39 : decode cX9_mask 39 = .ok (.iload_n 1, 1) := by decide +kernel
theorem dX9_mask_40 : decode cX9_mask 40 = .ok (.iload_n 2, 1) := by decide +kernel
theorem dX9_mask_41 : decode cX9_mask 41 = .ok (.iload_n 3, 1) := by decide +kernel
theorem dX9_mask_42 : decode cX9_mask 42 = .ok (.invokevirtual 206, 3) := by decide +kernel
theorem dX9_mask_45 : decode cX9_mask 45 = .ok (.aload_n 0, 1) := by decide +kernel
theorem dX9_mask_46 : decode cX9_mask 46 = .ok (.getfield 19, 3) := by decide +kernel
theorem dX9_mask_49 : decode cX9_mask 49 = .ok (.getfield 86, 3) := by decide +kernel
theorem dX9_mask_52 : decode cX9_mask 52 = .ok (.invokevirtual 105, 3) := by decide +kernel
theorem dX9_mask_55 : decode cX9_mask 55 = .ok (.ireturn, 1) := by decide +kernel
theorem dX9_turn_0 : decode cX9_turn 0 = .ok (.iload_n 1, 1) := by decide +kernel
theorem dX9_turn_1 : decode cX9_turn 1 = .ok (.iconst 0, 1) := by decide +kernel
theorem dX9_turn_2 : decode cX9_turn 2 = .ok (.iconst 3, 1) := by decide +kernel
theorem dX9_turn_3 : decode cX9_turn 3 = .ok (.invokestatic 66, 3) := by decide +kernel
theorem dX9_turn_6 : decode cX9_turn 6 = .ok (.ifCond .ne 6, 3) := by decide +kernel
theorem dX9_turn_9 : decode cX9_turn 9 = .ok (.ldc 70, 2) := by decide +kernel
theorem dX9_turn_11 : decode cX9_turn 11 = .ok (.ireturn, 1) := by decide +kernel
theorem dX9_turn_12 : decode cX9_turn 12 = .ok (.iload_n 1, 1) := by decide +kernel
theorem dX9_turn_13 : decode cX9_turn 13 = .ok (.iconst 2, 1) := by decide +kernel
theorem dX9_turn_14 : decode cX9_turn 14 = .ok (.if_icmp .ne 36, 3) := by decide +kernel
theorem dX9_turn_17 : decode cX9_turn 17 = .ok (.aload_n 0, 1) := by decide +kernel
theorem dX9_turn_18 : decode cX9_turn 18 = .ok (.getfield 19, 3) := by decide +kernel
theorem dX9_turn_21 : decode cX9_turn 21 = .ok (.getfield 86, 3) := by decide +kernel
theorem dX9_turn_24 : decode cX9_turn 24 = .ok (.getfield 102, 3) := by decide +kernel
theorem dX9_turn_27 : decode cX9_turn 27 = .ok (.bipush 10, 2) := by decide +kernel
theorem dX9_turn_29 : decode cX9_turn 29 = .ok (.if_icmp .gt 18, 3) := by decide +kernel
theorem dX9_turn_32 : decode cX9_turn 32 = .ok (.aload_n 0, 1) := by decide +kernel
theorem dX9_turn_33 : decode cX9_turn 33 = .ok (.getfield 19, 3) := by decide +kernel
theorem dX9_turn_36 : decode cX9_turn 36 = .ok (.getfield 86, 3) := by decide +kernel
theorem dX9_turn_39 : decode cX9_turn 39 = .ok (.getfield 99, 3) := by decide +kernel
theorem dX9_turn_42 : decode cX9_turn 42 = .ok (.bipush 8, 2) := by decide +kernel
theorem dX9_turn_44 : decode cX9_turn 44 = .ok (.if_icmp .le 6, 3) := by decide +kernel
theorem dX9_turn_47 : decode cX9_turn 47 = .ok (.ldc 210, 2) := by decide +kernel
theorem dX9_turn_49 : decode cX9_turn 49 = .ok (.ireturn, 1) := by decide +kernel
theorem dX9_turn_50 : decode cX9_turn 50 = .ok (.aload_n 0, 1) := by decide +kernel
theorem dX9_turn_51 : decode cX9_turn 51 = .ok (.getfield 34, 3) := by decide +kernel
theorem dX9_turn_54 : decode cX9_turn 54 = .ok (.aload_n 0, 1) := by decide +kernel
theorem dX9_turn_55 : decode cX9_turn 55 = .ok (.getfield 19, 3) := by decide +kernel
theorem dX9_turn_58 : decode cX9_turn 58 = .ok (.getfield 86, 3) := by decide +kernel
theorem dX9_turn_61 : decode cX9_turn 61 = .ok (.invokevirtual 89, 3) := by decide +kernel
theorem dX9_turn_64 : decode cX9_turn 64 = .ok (.aload_n 0, 1) := by decide +kernel
theorem dX9_turn_65 : decode cX9_turn 65 = .ok (.getfield 55, 3) := by decide +kernel
theorem dX9_turn_68 : decode cX9_turn 68 = .ok (.aload_n 0, 1) := by decide +kernel
theorem dX9_turn_69 : decode cX9_turn 69 = .ok (.getfield 19, 3) := by decide +kernel
theorem dX9_turn_72 : decode cX9_turn 72 = .ok (.getfield 86, 3) := by decide +kernel
theorem dX9_turn_75 : decode cX9_turn 75 = .ok (.iload_n 1, 1) := by decide +kernel
theorem dX9_turn_76 : decode cX9_turn 76 = .ok (.invokevirtual 211, 3) := by decide +kernel
theorem dX9_turn_79 : decode cX9_turn 79 = .ok (.aload_n 0, 1) := by decide +kernel
theorem dX9_turn_80 : decode cX9_turn 80 = .ok (.getfield 19, 3) := by decide +kernel
theorem dX9_turn_83 : decode cX9_turn 83 = .ok (.getfield 86, 3) := by decide +kernel
theorem dX9_turn_86 : decode cX9_turn 86 = .ok (.aload_n 0, 1) := by decide +kernel
theorem dX9_turn_87 : decode cX9_turn 87 = .ok (.getfield 55, 3) := by decide +kernel
theorem dX9_turn_90 : decode cX9_turn 90 = .ok (.invokevirtual 93, 3) := by decide +kernel
theorem dX9_turn_93 : decode cX9_turn 93 = .ok (.aload_n 0, 1) := by decide +kernel
theorem dX9_turn_94 : decode cX9_turn 94 = .ok (.getfield 19, 3) := by decide +kernel
theorem dX9_turn_97 : decode cX9_turn 97 = .ok (.getfield 86, 3) := by decide +kernel
theorem dX9_turn_100 : decode cX9_turn 100 = .ok (.getfield 99, 3) := by decide +kernel
theorem dX9_turn_103 : decode cX9_turn 103 = .ok (.ireturn, 1) := by decide +kernel
theorem dX9_filtered_0 : decode cX9_filtered 0 = .ok (.aload_n 0, 1) := by decide +kernel
theorem dX9_filtered_1 : decode cX9_filtered 1 = .ok (.getfield 19, 3) := by decide +kernel
theorem dX9_filtered_4 : decode cX9_filtered 4 = .ok (.getfield 120, 3) := by decide +kernel
theorem dX9_filtered_7 : decode cX9_filtered 7 = .ok (.iload_n 1, 1) := by decide +kernel
theorem dX9_filtered_8 : decode cX9_filtered 8 = .ok (.invokevirtual 167, 3) := by decide +kernel
theorem dX9_filtered_11 : decode cX9_filtered 11 = .ok (.astore_n 2, 1) := by decide +kernel
theorem dX9_filtered_12 : decode cX9_filtered 12 = .ok (.aload_n 2, 1) := by decide +kernel
theorem dX9_filtered_13 : decode cX9_filtered 13 = .ok (.ifnonnull 6, 3) := by decide +kernel
theorem dX9_filtered_16 : decode cX9_filtered 16 = .ok (.ldc 141, 2) := by decide +kernel
theorem dX9_filtered_18 : decode cX9_filtered 18 = .ok (.ireturn, 1) := by decide +kernel
theorem dX9_filtered_19 : decode cX9_filtered 19 = .ok (.aload_n 0, 1) := by decide +kernel
theorem dX9_filtered_20 : decode cX9_filtered 20 = .ok (.getfield 34, 3) := by decide +kernel
theorem dX9_filtered_23 : decode cX9_filtered 23 = .ok (.aload_n 0, 1) := by decide +kernel
theorem dX9_filtered_24 : decode cX9_filtered 24 = .ok (.getfield 19, 3) := by decide +kernel
theorem dX9_filtered_27 : decode cX9_filtered 27 = .ok (.getfield 86, 3) := by decide +kernel
theorem dX9_filtered_30 : decode cX9_filtered 30 = .ok (.invokevirtual 89, 3) := by decide +kernel
theorem dX9_filtered_33 : decode cX9_filtered 33 = .ok (.aload_n 0, 1) := by decide +kernel
theorem dX9_filtered_34 : decode cX9_filtered 34 = .ok (.aload_n 2, 1) := by decide +kernel
theorem dX9_filtered_35 : decode cX9_filtered 35 = .ok (.invokevirtual 215, 3) := by decide +kernel
theorem dX9_filtered_38 : decode cX9_filtered 38 = .ok (.ireturn, 1) := by decide +kernel
theorem dX9_all_0 : decode cX9_all 0 = .ok (.aload_n 0, 1) := by decide +kernel
theorem dX9_all_1 : decode cX9_all 1 = .ok (.getfield 19, 3) := by decide +kernel
theorem dX9_all_4 : decode cX9_all 4 = .ok (.getfield 120, 3) := by decide +kernel
theorem dX9_all_7 : decode cX9_all 7 = .ok (.getfield 124, 3) := by decide +kernel
theorem dX9_all_10 : decode cX9_all 10 = .ok (.ifCond .ne 6, 3) := by decide +kernel
theorem dX9_all_13 : decode cX9_all 13 = .ok (.ldc 210, 2) := by decide +kernel
theorem dX9_all_15 : decode cX9_all 15 = .ok (.ireturn, 1) := by decide +kernel
theorem dX9_all_16 : decode cX9_all 16 = .ok (.aload_n 0, 1) := by decide +kernel
theorem dX9_all_17 : decode cX9_all 17 = .ok (.getfield 34, 3) := by decide +kernel
theorem dX9_all_20 : decode cX9_all 20 = .ok (.aload_n 0, 1) := by decide +kernel
theorem dX9_all_21 : decode cX9_all 21 = .ok (.getfield 19, 3) := by decide +kernel
theorem dX9_all_24 : decode cX9_all 24 = .ok (.getfield 86, 3) := by decide +kernel
theorem dX9_all_27 : decode cX9_all 27 = .ok (.invokevirtual 89, 3) := by decide +kernel
theorem dX9_all_30 : decode cX9_all 30 = .ok (.aload_n 0, 1) := by decide +kernel
theorem dX9_all_31 : decode cX9_all 31 = .ok (.getfield 59, 3) := by decide +kernel
theorem dX9_all_34 : decode cX9_all 34 = .ok (.aload_n 0, 1) := by decide +kernel
theorem dX9_all_35 : decode cX9_all 35 = .ok (.getfield 19, 3) := by decide +kernel
theorem dX9_all_38 : decode cX9_all 38 = .ok (.getfield 86, 3) := by decide +kernel
theorem dX9_all_41 : decode cX9_all 41 = .ok (.invokevirtual 93, 3) := by decide +kernel
theorem dX9_all_44 : decode cX9_all 44 = .ok (.iconst 0, 1) := by decide +kernel
theorem dX9_all_45 : decode cX9_all 45 = .ok (.istore_n 1, 1) := by decide +kernel
theorem dX9_all_46 : decode cX9_all 46 = .ok (.iload_n 1, 1) := by decide +kernel
theorem dX9_all_47 : decode cX9_all 47 = .ok (.aload_n 0, 1) := by decide +kernel
theorem dX9_all_48 : decode cX9_all 48 = .ok (.getfield 19, 3) := by decide +kernel
theorem dX9_all_51 : decode cX9_all 51 = .ok (.getfield 120, 3) := by decide +kernel
theorem dX9_all_54 : decode cX9_all 54 = .ok (.getfield 124, 3) := by decide +kernel
theorem dX9_all_57 : decode cX9_all 57 = .ok (.if_icmp .ge 31, 3) := by decide +kernel
theorem dX9_all_60 : decode cX9_all 60 = .ok (.aload_n 0, 1) := by decide +kernel
theorem dX9_all_61 : decode cX9_all 61 = .ok (.getfield 19, 3) := by decide +kernel
theorem dX9_all_64 : decode cX9_all 64 = .ok (.getfield 120, 3) := by decide +kernel
theorem dX9_all_67 : decode cX9_all 67 = .ok (.iload_n 1, 1) := by decide +kernel
theorem dX9_all_68 : decode cX9_all 68 = .ok (.invokevirtual 167, 3) := by decide +kernel
theorem dX9_all_71 : decode cX9_all 71 = .ok (.astore_n 2, 1) := by decide +kernel
theorem dX9_all_72 : decode cX9_all 72 = .ok (.aload_n 2, 1) := by decide +kernel
theorem dX9_all_73 : decode cX9_all 73 = .ok (.ifnull 9, 3) := by decide +kernel
theorem dX9_all_76 : decode cX9_all 76 = .ok (.aload_n 0, 1) := by decide +kernel
theorem dX9_all_77 : decode cX9_all 77 = .ok (.aload_n 2, 1) := by decide +kernel
theorem dX9_all_78 : decode cX9_all 78 = .ok (.invokevirtual 215, 3) := by decide +kernel
theorem dX9_all_81 : decode cX9_all 81 = .ok (.pop, 1) := by decide +kernel
theorem dX9_all_82 : decode cX9_all 82 = .ok (.iinc 1 1, 3) := by decide +kernel
theorem dX9_all_85 : decode cX9_all 85 = .ok (.goto (-39), 3) := by decide +kernel
theorem dX9_all_88 : decode cX9_all 88 = .ok (.aload_n 0, 1) := by decide +kernel
theorem dX9_all_89 : decode cX9_all 89 = .ok (.getfield 19, 3) := by decide +kernel
theorem dX9_all_92 : decode cX9_all 92 = .ok (.getfield 86, 3) := by decide +kernel
theorem dX9_all_95 : decode cX9_all 95 = .ok (.aload_n 0, 1) := by decide +kernel
theorem dX9_all_96 : decode cX9_all 96 = .ok (.getfield 59, 3) := by decide +kernel
theorem dX9_all_99 : decode cX9_all 99 = .ok (.invokevirtual 218, 3) := by decide +kernel
theorem dX9_all_102 : decode cX9_all 102 = .ok (.ireturn, 1) := by decide +kernel
theorem dX9_until_0 : decode cX9_until 0 = .ok (.aload_n 0, 1) := by decide +kernel
theorem dX9_until_1 : decode cX9_until 1 = .ok (.getfield 19, 3) := by decide +kernel
theorem dX9_until_4 : decode cX9_until 4 = .ok (.getfield 120, 3) := by decide +kernel
theorem dX9_until_7 : decode cX9_until 7 = .ok (.iload_n 1, 1) := by decide +kernel
theorem dX9_until_8 : decode cX9_until 8 = .ok (.invokevirtual 167, 3) := by decide +kernel
theorem dX9_until_11 : decode cX9_until 11 = .ok (.astore_n 3, 1) := by decide +kernel
theorem dX9_until_12 : decode cX9_until 12 = .ok (.aload_n 3, 1) := by decide +kernel
theorem dX9_until_13 : decode cX9_until 13 = .ok (.ifnonnull 6, 3) := by decide +kernel
theorem dX9_until_16 : decode cX9_until 16 = .ok (.ldc 141, 2) := by decide +kernel
theorem dX9_until_18 : decode cX9_until 18 = .ok (.ireturn, 1) := by decide +kernel
theorem dX9_until_19 : decode cX9_until 19 = .ok (.iload_n 2, 1) := by decide +kernel
theorem dX9_until_20 : decode cX9_until 20 = .ok (.iconst 1, 1) := by decide +kernel
theorem dX9_until_21 : decode cX9_until 21 = .ok (.bipush 20, 2) := by decide +kernel
theorem dX9_until_23 : decode cX9_until 23 = .ok (.invokestatic 66, 3) := by decide +kernel
theorem dX9_until_26 : decode cX9_until 26 = .ok (.ifCond .ne 6, 3) := by decide +kernel
theorem dX9_until_29 : decode cX9_until 29 = .ok (.ldc 70, 2) := by decide +kernel
theorem dX9_until_31 : decode cX9_until 31 = .ok (.ireturn, 1) := by decide +kernel
theorem dX9_until_32 : decode cX9_until 32 = .ok (.aload_n 0, 1) := by decide +kernel
theorem dX9_until_33 : decode cX9_until 33 = .ok (.getfield 34, 3) := by decide +kernel
theorem dX9_until_36 : decode cX9_until 36 = .ok (.aload_n 0, 1) := by decide +kernel
theorem dX9_until_37 : decode cX9_until 37 = .ok (.getfield 19, 3) := by decide +kernel
theorem dX9_until_40 : decode cX9_until 40 = .ok (.getfield 86, 3) := by decide +kernel
theorem dX9_until_43 : decode cX9_until 43 = .ok (.invokevirtual 89, 3) := by decide +kernel
theorem dX9_until_46 : decode cX9_until 46 = .ok (.iconst 0, 1) := by decide +kernel
theorem dX9_until_47 : decode cX9_until 47 = .ok (.istore 4, 2) := by decide +kernel
theorem dX9_until_49 : decode cX9_until 49 = .ok (.iload 4, 2) := by decide +kernel
theorem dX9_until_51 : decode cX9_until 51 = .ok (.iload_n 2, 1) := by decide +kernel
theorem dX9_until_52 : decode cX9_until 52 = .ok (.if_icmp .ge 17, 3) := by decide +kernel
theorem dX9_until_55 : decode cX9_until 55 = .ok (.aload_n 0, 1) := by decide +kernel
theorem dX9_until_56 : decode cX9_until 56 = .ok (.aload_n 3, 1) := by decide +kernel
theorem dX9_until_57 : decode cX9_until 57 = .ok (.invokevirtual 215, 3) := by decide +kernel
theorem dX9_until_60 : decode cX9_until 60 = .ok (.ifCond .le 9, 3) := by decide +kernel
theorem dX9_until_63 : decode cX9_until 63 = .ok (.iinc 4 1, 3) := by decide +kernel
theorem dX9_until_66 : decode cX9_until 66 = .ok (.goto (-17), 3) := by decide +kernel
theorem dX9_until_69 : decode cX9_until 69 = .ok (.iload 4, 2) := by decide +kernel
theorem dX9_until_71 : decode cX9_until 71 = .ok (.ireturn, 1) := by decide +kernel
theorem dX9_noise_0 : decode cX9_noise 0 = .ok (.iload_n 1, 1) := by decide +kernel
theorem dX9_noise_1 : decode cX9_noise 1 = .ok (.iconst 1, 1) := by decide +kernel
theorem dX9_noise_2 : decode cX9_noise 2 = .ok (.bipush 12, 2) := by decide +kernel
theorem dX9_noise_4 : decode cX9_noise 4 = .ok (.invokestatic 66, 3) := by decide +kernel
theorem dX9_noise_7 : decode cX9_noise 7 = .ok (.ifCond .ne 6, 3) := by decide +kernel
theorem dX9_noise_10 : decode cX9_noise 10 = .ok (.ldc 70, 2) := by decide +kernel
theorem dX9_noise_12 : decode cX9_noise 12 = .ok (.ireturn, 1) := by decide +kernel
theorem dX9_noise_13 : decode cX9_noise 13 = .ok (.iconst 0, 1) := by decide +kernel
theorem dX9_noise_14 : decode cX9_noise 14 = .ok (.istore_n 2, 1) := by decide +kernel
theorem dX9_noise_15 : decode cX9_noise 15 = .ok (.iload_n 2, 1) := by decide +kernel
theorem dX9_noise_16 : decode cX9_noise 16 = .ok (.iload_n 1, 1) := by decide +kernel
theorem dX9_noise_17 : decode cX9_noise 17 = .ok (.if_icmp .ge 30, 3) := by decide +kernel
theorem dX9_noise_20 : decode cX9_noise 20 = .ok (.aload_n 0, 1) := by decide +kernel
theorem dX9_noise_21 : decode cX9_noise 21 = .ok (.getfield 34, 3) := by decide +kernel
theorem dX9_noise_24 : decode cX9_noise 24 = .ok (.aload_n 0, 1) := by decide +kernel
theorem dX9_noise_25 : decode cX9_noise 25 = .ok (.getfield 19, 3) := by decide +kernel
theorem dX9_noise_28 : decode cX9_noise 28 = .ok (.getfield 86, 3) := by decide +kernel
theorem dX9_noise_31 : decode cX9_noise 31 = .ok (.invokevirtual 89, 3) := by decide +kernel
theorem dX9_noise_34 : decode cX9_noise 34 = .ok (.aload_n 0, 1) := by decide +kernel
theorem dX9_noise_35 : decode cX9_noise 35 = .ok (.getfield 19, 3) := by decide +kernel
theorem dX9_noise_38 : decode cX9_noise 38 = .ok (.invokevirtual 221, 3) := by decide +kernel
theorem dX9_noise_41 : decode cX9_noise 41 = .ok (.iinc 2 1, 3) := by decide +kernel
theorem dX9_noise_44 : decode cX9_noise 44 = .ok (.goto (-29), 3) := by decide +kernel
theorem dX9_noise_47 : decode cX9_noise 47 = .ok (.aload_n 0, 1) := by decide +kernel
theorem dX9_noise_48 : decode cX9_noise 48 = .ok (.getfield 19, 3) := by decide +kernel
theorem dX9_noise_51 : decode cX9_noise 51 = .ok (.getfield 224, 3) := by decide +kernel
theorem dX9_noise_54 : decode cX9_noise 54 = .ok (.ireturn, 1) := by decide +kernel
theorem dX9_undo_0 : decode cX9_undo 0 = .ok (.iload_n 1, 1) := by decide +kernel
theorem dX9_undo_1 : decode cX9_undo 1 = .ok (.iconst 1, 1) := by decide +kernel
theorem dX9_undo_2 : decode cX9_undo 2 = .ok (.bipush 16, 2) := by decide +kernel
theorem dX9_undo_4 : decode cX9_undo 4 = .ok (.invokestatic 66, 3) := by decide +kernel
theorem dX9_undo_7 : decode cX9_undo 7 = .ok (.ifCond .ne 6, 3) := by decide +kernel
theorem dX9_undo_10 : decode cX9_undo 10 = .ok (.ldc 70, 2) := by decide +kernel
theorem dX9_undo_12 : decode cX9_undo 12 = .ok (.ireturn, 1) := by decide +kernel
theorem dX9_undo_13 : decode cX9_undo 13 = .ok (.iload_n 1, 1) := by decide +kernel
theorem dX9_undo_14 : decode cX9_undo 14 = .ok (.aload_n 0, 1) := by decide +kernel
theorem dX9_undo_15 : decode cX9_undo 15 = .ok (.getfield 34, 3) := by decide +kernel
theorem dX9_undo_18 : decode cX9_undo 18 = .ok (.getfield 136, 3) := by decide +kernel
theorem dX9_undo_21 : decode cX9_undo 21 = .ok (.if_icmp .le 6, 3) := by decide +kernel
theorem dX9_undo_24 : decode cX9_undo 24 = .ok (.ldc 210, 2) := by decide +kernel
theorem dX9_undo_26 : decode cX9_undo 26 = .ok (.ireturn, 1) := by decide +kernel
theorem dX9_undo_27 : decode cX9_undo 27 = .ok (.aload_n 0, 1) := by decide +kernel
theorem dX9_undo_28 : decode cX9_undo 28 = .ok (.getfield 34, 3) := by decide +kernel
theorem dX9_undo_31 : decode cX9_undo 31 = .ok (.iload_n 1, 1) := by decide +kernel
theorem dX9_undo_32 : decode cX9_undo 32 = .ok (.aload_n 0, 1) := by decide +kernel
theorem dX9_undo_33 : decode cX9_undo 33 = .ok (.getfield 19, 3) := by decide +kernel
theorem dX9_undo_36 : decode cX9_undo 36 = .ok (.getfield 86, 3) := by decide +kernel
theorem dX9_undo_39 : decode cX9_undo 39 = .ok (.invokevirtual 227, 3) := by decide +kernel
theorem dX9_undo_42 : decode cX9_undo 42 = .ok (.aload_n 0, 1) := by decide +kernel
theorem dX9_undo_43 : decode cX9_undo 43 = .ok (.getfield 34, 3) := by decide +kernel
theorem dX9_undo_46 : decode cX9_undo 46 = .ok (.getfield 136, 3) := by decide +kernel
theorem dX9_undo_49 : decode cX9_undo 49 = .ok (.ireturn, 1) := by decide +kernel
theorem dX9_write_0 : decode cX9_write 0 = .ok (.aload_n 0, 1) := by decide +kernel
theorem dX9_write_1 : decode cX9_write 1 = .ok (.getfield 19, 3) := by decide +kernel
theorem dX9_write_4 : decode cX9_write 4 = .ok (.getfield 86, 3) := by decide +kernel
theorem dX9_write_7 : decode cX9_write 7 = .ok (.iload_n 1, 1) := by decide +kernel
theorem dX9_write_8 : decode cX9_write 8 = .ok (.iload_n 2, 1) := by decide +kernel
theorem dX9_write_9 : decode cX9_write 9 = .ok (.invokevirtual 137, 3) := by decide +kernel
theorem dX9_write_12 : decode cX9_write 12 = .ok (.ifCond .ne 6, 3) := by decide +kernel
theorem dX9_write_15 : decode cX9_write 15 = .ok (.ldc 141, 2) := by decide +kernel
theorem dX9_write_17 : decode cX9_write 17 = .ok (.ireturn, 1) := by decide +kernel
theorem dX9_write_18 : decode cX9_write 18 = .ok (.aload_n 0, 1) := by decide +kernel
theorem dX9_write_19 : decode cX9_write 19 = .ok (.getfield 41, 3) := by decide +kernel
theorem dX9_write_22 : decode cX9_write 22 = .ok (.iload_n 1, 1) := by decide +kernel
theorem dX9_write_23 : decode cX9_write 23 = .ok (.iload_n 2, 1) := by decide +kernel
theorem dX9_write_24 : decode cX9_write 24 = .ok (.iload_n 3, 1) := by decide +kernel
theorem dX9_write_25 : decode cX9_write 25 = .ok (.invokevirtual 231, 3) := by decide +kernel
theorem dX9_write_28 : decode cX9_write 28 = .ok (.ireturn, 1) := by decide +kernel
theorem dX9_tear_0 : decode cX9_tear 0 = .ok (.aload_n 0, 1) := by decide +kernel
theorem dX9_tear_1 : decode cX9_tear 1 = .ok (.getfield 41, 3) := by decide +kernel
theorem dX9_tear_4 : decode cX9_tear 4 = .ok (.getfield 132, 3) := by decide +kernel
theorem dX9_tear_7 : decode cX9_tear 7 = .ok (.istore_n 1, 1) := by decide +kernel
theorem dX9_tear_8 : decode cX9_tear 8 = .ok (.aload_n 0, 1) := by decide +kernel
theorem dX9_tear_9 : decode cX9_tear 9 = .ok (.getfield 41, 3) := by decide +kernel
theorem dX9_tear_12 : decode cX9_tear 12 = .ok (.iconst 0, 1) := by decide +kernel
theorem dX9_tear_13 : decode cX9_tear 13 = .ok (.putfield 132, 3) := by decide +kernel
theorem dX9_tear_16 : decode cX9_tear 16 = .ok (.iload_n 1, 1) := by decide +kernel
theorem dX9_tear_17 : decode cX9_tear 17 = .ok (.ireturn, 1) := by decide +kernel
theorem dX9_seed_0 : decode cX9_seed 0 = .ok (.iload_n 1, 1) := by decide +kernel
theorem dX9_seed_1 : decode cX9_seed 1 = .ok (.ifCond .ge 6, 3) := by decide +kernel
theorem dX9_seed_4 : decode cX9_seed 4 = .ok (.ldc 70, 2) := by decide +kernel
theorem dX9_seed_6 : decode cX9_seed 6 = .ok (.ireturn, 1) := by decide +kernel
theorem dX9_seed_7 : decode cX9_seed 7 = .ok (.aload_n 0, 1) := by decide +kernel
theorem dX9_seed_8 : decode cX9_seed 8 = .ok (.getfield 19, 3) := by decide +kernel
theorem dX9_seed_11 : decode cX9_seed 11 = .ok (.getfield 224, 3) := by decide +kernel
theorem dX9_seed_14 : decode cX9_seed 14 = .ok (.istore_n 2, 1) := by decide +kernel
theorem dX9_seed_15 : decode cX9_seed 15 = .ok (.aload_n 0, 1) := by decide +kernel
theorem dX9_seed_16 : decode cX9_seed 16 = .ok (.getfield 19, 3) := by decide +kernel
theorem dX9_seed_19 : decode cX9_seed 19 = .ok (.iload_n 1, 1) := by decide +kernel
theorem dX9_seed_20 : decode cX9_seed 20 = .ok (.putfield 224, 3) := by decide +kernel
theorem dX9_seed_23 : decode cX9_seed 23 = .ok (.iload_n 2, 1) := by decide +kernel
theorem dX9_seed_24 : decode cX9_seed 24 = .ok (.ireturn, 1) := by decide +kernel
theorem dX9_keep_0 : decode cX9_keep 0 = .ok (.iload_n 1, 1) := by decide +kernel
theorem dX9_keep_1 : decode cX9_keep 1 = .ok (.iconst 0, 1) := by decide +kernel
theorem dX9_keep_2 : decode cX9_keep 2 = .ok (.iconst 1, 1) := by decide +kernel
theorem dX9_keep_3 : decode cX9_keep 3 = .ok (.invokestatic 66, 3) := by decide +kernel
theorem dX9_keep_6 : decode cX9_keep 6 = .ok (.ifCond .ne 6, 3) := by decide +kernel
theorem dX9_keep_9 : decode cX9_keep 9 = .ok (.ldc 141, 2) := by decide +kernel
theorem dX9_keep_11 : decode cX9_keep 11 = .ok (.ireturn, 1) := by decide +kernel
theorem dX9_keep_12 : decode cX9_keep 12 = .ok (.aload_n 0, 1) := by decide +kernel
theorem dX9_keep_13 : decode cX9_keep 13 = .ok (.getfield 23, 3) := by decide +kernel
theorem dX9_keep_16 : decode cX9_keep 16 = .ok (.iload_n 1, 1) := by decide +kernel
theorem dX9_keep_17 : decode cX9_keep 17 = .ok (.aaload, 1) := by decide +kernel
theorem dX9_keep_18 : decode cX9_keep 18 = .ok (.aload_n 0, 1) := by decide +kernel
theorem dX9_keep_19 : decode cX9_keep 19 = .ok (.getfield 19, 3) := by decide +kernel
theorem dX9_keep_22 : decode cX9_keep 22 = .ok (.invokevirtual 234, 3) := by decide +kernel
theorem dX9_keep_25 : decode cX9_keep 25 = .ok (.aload_n 0, 1) := by decide +kernel
theorem dX9_keep_26 : decode cX9_keep 26 = .ok (.getfield 27, 3) := by decide +kernel
theorem dX9_keep_29 : decode cX9_keep 29 = .ok (.iload_n 1, 1) := by decide +kernel
theorem dX9_keep_30 : decode cX9_keep 30 = .ok (.iconst 1, 1) := by decide +kernel
theorem dX9_keep_31 : decode cX9_keep 31 = .ok (.bastore, 1) := by decide +kernel
theorem dX9_keep_32 : decode cX9_keep 32 = .ok (.aload_n 0, 1) := by decide +kernel
theorem dX9_keep_33 : decode cX9_keep 33 = .ok (.getfield 34, 3) := by decide +kernel
theorem dX9_keep_36 : decode cX9_keep 36 = .ok (.invokevirtual 237, 3) := by decide +kernel
theorem dX9_keep_39 : decode cX9_keep 39 = .ok (.iconst 1, 1) := by decide +kernel
theorem dX9_keep_40 : decode cX9_keep 40 = .ok (.ireturn, 1) := by decide +kernel
theorem dX9_goBack_0 : decode cX9_goBack 0 = .ok (.iload_n 1, 1) := by decide +kernel
theorem dX9_goBack_1 : decode cX9_goBack 1 = .ok (.iconst 0, 1) := by decide +kernel
theorem dX9_goBack_2 : decode cX9_goBack 2 = .ok (.iconst 1, 1) := by decide +kernel
theorem dX9_goBack_3 : decode cX9_goBack 3 = .ok (.invokestatic 66, 3) := by decide +kernel
theorem dX9_goBack_6 : decode cX9_goBack 6 = .ok (.ifCond .ne 6, 3) := by decide +kernel
theorem dX9_goBack_9 : decode cX9_goBack 9 = .ok (.ldc 141, 2) := by decide +kernel
theorem dX9_goBack_11 : decode cX9_goBack 11 = .ok (.ireturn, 1) := by decide +kernel
theorem dX9_goBack_12 : decode cX9_goBack 12 = .ok (.aload_n 0, 1) := by decide +kernel
theorem dX9_goBack_13 : decode cX9_goBack 13 = .ok (.getfield 27, 3) := by decide +kernel
theorem dX9_goBack_16 : decode cX9_goBack 16 = .ok (.iload_n 1, 1) := by decide +kernel
theorem dX9_goBack_17 : decode cX9_goBack 17 = .ok (.baload, 1) := by decide +kernel
theorem dX9_goBack_18 : decode cX9_goBack 18 = .ok (.ifCond .ne 6, 3) := by decide +kernel
theorem dX9_goBack_21 : decode cX9_goBack 21 = .ok (.ldc 210, 2) := by decide +kernel
theorem dX9_goBack_23 : decode cX9_goBack 23 = .ok (.ireturn, 1) := by decide +kernel
theorem dX9_goBack_24 : decode cX9_goBack 24 = .ok (.aload_n 0, 1) := by decide +kernel
theorem dX9_goBack_25 : decode cX9_goBack 25 = .ok (.getfield 19, 3) := by decide +kernel
theorem dX9_goBack_28 : decode cX9_goBack 28 = .ok (.aload_n 0, 1) := by decide +kernel
theorem dX9_goBack_29 : decode cX9_goBack 29 = .ok (.getfield 23, 3) := by decide +kernel
theorem dX9_goBack_32 : decode cX9_goBack 32 = .ok (.iload_n 1, 1) := by decide +kernel
theorem dX9_goBack_33 : decode cX9_goBack 33 = .ok (.aaload, 1) := by decide +kernel
theorem dX9_goBack_34 : decode cX9_goBack 34 = .ok (.invokevirtual 234, 3) := by decide +kernel
theorem dX9_goBack_37 : decode cX9_goBack 37 = .ok (.aload_n 0, 1) := by decide +kernel
theorem dX9_goBack_38 : decode cX9_goBack 38 = .ok (.getfield 34, 3) := by decide +kernel
theorem dX9_goBack_41 : decode cX9_goBack 41 = .ok (.invokevirtual 237, 3) := by decide +kernel
theorem dX9_goBack_44 : decode cX9_goBack 44 = .ok (.iconst 1, 1) := by decide +kernel
theorem dX9_goBack_45 : decode cX9_goBack 45 = .ok (.ireturn, 1) := by decide +kernel
theorem dX9_against_0 : decode cX9_against 0 = .ok (.iload_n 1, 1) := by decide +kernel
theorem dX9_against_1 : decode cX9_against 1 = .ok (.iconst 0, 1) := by decide +kernel
theorem dX9_against_2 : decode cX9_against 2 = .ok (.iconst 1, 1) := by decide +kernel
theorem dX9_against_3 : decode cX9_against 3 = .ok (.invokestatic 66, 3) := by decide +kernel
theorem dX9_against_6 : decode cX9_against 6 = .ok (.ifCond .ne 6, 3) := by decide +kernel
theorem dX9_against_9 : decode cX9_against 9 = .ok (.ldc 141, 2) := by decide +kernel
theorem dX9_against_11 : decode cX9_against 11 = .ok (.ireturn, 1) := by decide +kernel
theorem dX9_against_12 : decode cX9_against 12 = .ok (.aload_n 0, 1) := by decide +kernel
theorem dX9_against_13 : decode cX9_against 13 = .ok (.getfield 27, 3) := by decide +kernel
theorem dX9_against_16 : decode cX9_against 16 = .ok (.iload_n 1, 1) := by decide +kernel
theorem dX9_against_17 : decode cX9_against 17 = .ok (.baload, 1) := by decide +kernel
theorem dX9_against_18 : decode cX9_against 18 = .ok (.ifCond .ne 6, 3) := by decide +kernel
theorem dX9_against_21 : decode cX9_against 21 = .ok (.ldc 210, 2) := by decide +kernel
theorem dX9_against_23 : decode cX9_against 23 = .ok (.ireturn, 1) := by decide +kernel
theorem dX9_against_24 : decode cX9_against 24 = .ok (.aload_n 0, 1) := by decide +kernel
theorem dX9_against_25 : decode cX9_against 25 = .ok (.getfield 19, 3) := by decide +kernel
theorem dX9_against_28 : decode cX9_against 28 = .ok (.getfield 86, 3) := by decide +kernel
theorem dX9_against_31 : decode cX9_against 31 = .ok (.aload_n 0, 1) := by decide +kernel
theorem dX9_against_32 : decode cX9_against 32 = .ok (.getfield 23, 3) := by decide +kernel
theorem dX9_against_35 : decode cX9_against 35 = .ok (.iload_n 1, 1) := by decide +kernel
theorem dX9_against_36 : decode cX9_against 36 = .ok (.aaload, 1) := by decide +kernel
theorem dX9_against_37 : decode cX9_against 37 = .ok (.getfield 86, 3) := by decide +kernel
theorem dX9_against_40 : decode cX9_against 40 = .ok (.invokevirtual 240, 3) := by decide +kernel
theorem dX9_against_43 : decode cX9_against 43 = .ok (.ireturn, 1) := by decide +kernel
theorem dX9_within_0 : decode cX9_within 0 = .ok (.iload_n 1, 1) := by decide +kernel
theorem dX9_within_1 : decode cX9_within 1 = .ok (.iload_n 0, 1) := by decide +kernel
theorem dX9_within_2 : decode cX9_within 2 = .ok (.if_icmp .gt 12, 3) := by decide +kernel
theorem dX9_within_5 : decode cX9_within 5 = .ok (.iload_n 0, 1) := by decide +kernel
theorem dX9_within_6 : decode cX9_within 6 = .ok (.iload_n 2, 1) := by decide +kernel
theorem dX9_within_7 : decode cX9_within 7 = .ok (.if_icmp .gt 7, 3) := by decide +kernel
theorem dX9_within_10 : decode cX9_within 10 = .ok (.iconst 1, 1) := by decide +kernel
theorem dX9_within_11 : decode cX9_within 11 = .ok (.goto 4, 3) := by decide +kernel
theorem dX9_within_14 : decode cX9_within 14 = .ok (.iconst 0, 1) := by decide +kernel
theorem dX9_within_15 : decode cX9_within 15 = .ok (.ireturn, 1) := by decide +kernel
theorem dX9_lastOf_0 : decode cX9_lastOf 0 = .ok (.aload_n 0, 1) := by decide +kernel
theorem dX9_lastOf_1 : decode cX9_lastOf 1 = .ok (.getfield 48, 3) := by decide +kernel
theorem dX9_lastOf_4 : decode cX9_lastOf 4 = .ok (.aload_n 0, 1) := by decide +kernel
theorem dX9_lastOf_5 : decode cX9_lastOf 5 = .ok (.getfield 19, 3) := by decide +kernel
theorem dX9_lastOf_8 : decode cX9_lastOf 8 = .ok (.getfield 86, 3) := by decide +kernel
theorem dX9_lastOf_11 : decode cX9_lastOf 11 = .ok (.aload_n 1, 1) := by decide +kernel
theorem dX9_lastOf_12 : decode cX9_lastOf 12 = .ok (.aload_n 0, 1) := by decide +kernel
theorem dX9_lastOf_13 : decode cX9_lastOf 13 = .ok (.getfield 19, 3) := by decide +kernel
theorem dX9_lastOf_16 : decode cX9_lastOf 16 = .ok (.getfield 129, 3) := by decide +kernel
theorem dX9_lastOf_19 : decode cX9_lastOf 19 = .ok (.iload_n 2, 1) := by decide +kernel
theorem dX9_lastOf_20 : decode cX9_lastOf 20 = .ok (.iload_n 3, 1) := by decide +kernel
theorem dX9_lastOf_21 : decode cX9_lastOf 21 = .ok (.invokevirtual 174, 3) := by decide +kernel
theorem dX9_lastOf_24 : decode cX9_lastOf 24 = .ok (.aload_n 0, 1) := by decide +kernel
theorem dX9_lastOf_25 : decode cX9_lastOf 25 = .ok (.getfield 48, 3) := by decide +kernel
theorem dX9_lastOf_28 : decode cX9_lastOf 28 = .ok (.aload_n 1, 1) := by decide +kernel
theorem dX9_lastOf_29 : decode cX9_lastOf 29 = .ok (.getfield 178, 3) := by decide +kernel
theorem dX9_lastOf_32 : decode cX9_lastOf 32 = .ok (.invokevirtual 181, 3) := by decide +kernel
theorem dX9_lastOf_35 : decode cX9_lastOf 35 = .ok (.ireturn, 1) := by decide +kernel
theorem dX9_apply_0 : decode cX9_apply 0 = .ok (.aload_n 0, 1) := by decide +kernel
theorem dX9_apply_1 : decode cX9_apply 1 = .ok (.getfield 55, 3) := by decide +kernel
theorem dX9_apply_4 : decode cX9_apply 4 = .ok (.aload_n 0, 1) := by decide +kernel
theorem dX9_apply_5 : decode cX9_apply 5 = .ok (.getfield 19, 3) := by decide +kernel
theorem dX9_apply_8 : decode cX9_apply 8 = .ok (.getfield 86, 3) := by decide +kernel
theorem dX9_apply_11 : decode cX9_apply 11 = .ok (.invokevirtual 93, 3) := by decide +kernel
theorem dX9_apply_14 : decode cX9_apply 14 = .ok (.iconst 0, 1) := by decide +kernel
theorem dX9_apply_15 : decode cX9_apply 15 = .ok (.istore_n 2, 1) := by decide +kernel
theorem dX9_apply_16 : decode cX9_apply 16 = .ok (.iload_n 2, 1) := by decide +kernel
theorem dX9_apply_17 : decode cX9_apply 17 = .ok (.aload_n 0, 1) := by decide +kernel
theorem dX9_apply_18 : decode cX9_apply 18 = .ok (.getfield 19, 3) := by decide +kernel
theorem dX9_apply_21 : decode cX9_apply 21 = .ok (.getfield 86, 3) := by decide +kernel
theorem dX9_apply_24 : decode cX9_apply 24 = .ok (.getfield 102, 3) := by decide +kernel
theorem dX9_apply_27 : decode cX9_apply 27 = .ok (.if_icmp .ge 62, 3) := by decide +kernel
theorem dX9_apply_30 : decode cX9_apply 30 = .ok (.iconst 0, 1) := by decide +kernel
theorem dX9_apply_31 : decode cX9_apply 31 = .ok (.istore_n 3, 1) := by decide +kernel
theorem dX9_apply_32 : decode cX9_apply 32 = .ok (.iload_n 3, 1) := by decide +kernel
theorem dX9_apply_33 : decode cX9_apply 33 = .ok (.aload_n 0, 1) := by decide +kernel
theorem dX9_apply_34 : decode cX9_apply 34 = .ok (.getfield 19, 3) := by decide +kernel
theorem dX9_apply_37 : decode cX9_apply 37 = .ok (.getfield 86, 3) := by decide +kernel
theorem dX9_apply_40 : decode cX9_apply 40 = .ok (.getfield 99, 3) := by decide +kernel
theorem dX9_apply_43 : decode cX9_apply 43 = .ok (.if_icmp .ge 40, 3) := by decide +kernel
theorem dX9_apply_46 : decode cX9_apply 46 = .ok (.aload_n 0, 1) := by decide +kernel
theorem dX9_apply_47 : decode cX9_apply 47 = .ok (.getfield 19, 3) := by decide +kernel
theorem dX9_apply_50 : decode cX9_apply 50 = .ok (.getfield 86, 3) := by decide +kernel
theorem dX9_apply_53 : decode cX9_apply 53 = .ok (.iload_n 3, 1) := by decide +kernel
theorem dX9_apply_54 : decode cX9_apply 54 = .ok (.iload_n 2, 1) := by decide +kernel
theorem dX9_apply_55 : decode cX9_apply 55 = .ok (.invokevirtual 146, 3) := by decide +kernel
theorem dX9_apply_58 : decode cX9_apply 58 = .ok (.ifCond .ne 19, 3) := by decide +kernel
theorem dX9_apply_61 : decode cX9_apply 61 = .ok (.aload_n 0, 1) := by decide +kernel
theorem dX9_apply_62 : decode cX9_apply 62 = .ok (.getfield 55, 3) := by decide +kernel
theorem dX9_apply_65 : decode cX9_apply 65 = .ok (.iload_n 3, 1) := by decide +kernel
theorem dX9_apply_66 : decode cX9_apply 66 = .ok (.iload_n 2, 1) := by decide +kernel
theorem dX9_apply_67 : decode cX9_apply 67 = .ok (.aload_n 0, 1) := by decide +kernel
theorem dX9_apply_68 : decode cX9_apply 68 = .ok (.aload_n 1, 1) := by decide +kernel
theorem dX9_apply_69 : decode cX9_apply 69 = .ok (.iload_n 3, 1) := by decide +kernel
theorem dX9_apply_70 : decode cX9_apply 70 = .ok (.iload_n 2, 1) := by decide +kernel
theorem dX9_apply_71 : decode cX9_apply 71 = .ok (.invokevirtual 193, 3) := by decide +kernel
theorem dX9_apply_74 : decode cX9_apply 74 = .ok (.invokevirtual 202, 3) := by decide +kernel
theorem dX9_apply_77 : decode cX9_apply 77 = .ok (.iinc 3 1, 3) := by decide +kernel
theorem dX9_apply_80 : decode cX9_apply 80 = .ok (.goto (-48), 3) := by decide +kernel
theorem dX9_apply_83 : decode cX9_apply 83 = .ok (.iinc 2 1, 3) := by decide +kernel
theorem dX9_apply_86 : decode cX9_apply 86 = .ok (.goto (-70), 3) := by decide +kernel
theorem dX9_apply_89 : decode cX9_apply 89 = .ok (.aload_n 0, 1) := by decide +kernel
theorem dX9_apply_90 : decode cX9_apply 90 = .ok (.getfield 19, 3) := by decide +kernel
theorem dX9_apply_93 : decode cX9_apply 93 = .ok (.getfield 86, 3) := by decide +kernel
theorem dX9_apply_96 : decode cX9_apply 96 = .ok (.aload_n 0, 1) := by decide +kernel
theorem dX9_apply_97 : decode cX9_apply 97 = .ok (.getfield 55, 3) := by decide +kernel
theorem dX9_apply_100 : decode cX9_apply 100 = .ok (.invokevirtual 218, 3) := by decide +kernel
theorem dX9_apply_103 : decode cX9_apply 103 = .ok (.istore_n 2, 1) := by decide +kernel
theorem dX9_apply_104 : decode cX9_apply 104 = .ok (.aload_n 0, 1) := by decide +kernel
theorem dX9_apply_105 : decode cX9_apply 105 = .ok (.getfield 19, 3) := by decide +kernel
theorem dX9_apply_108 : decode cX9_apply 108 = .ok (.getfield 86, 3) := by decide +kernel
theorem dX9_apply_111 : decode cX9_apply 111 = .ok (.aload_n 0, 1) := by decide +kernel
theorem dX9_apply_112 : decode cX9_apply 112 = .ok (.getfield 55, 3) := by decide +kernel
theorem dX9_apply_115 : decode cX9_apply 115 = .ok (.invokevirtual 93, 3) := by decide +kernel
theorem dX9_apply_118 : decode cX9_apply 118 = .ok (.iload_n 2, 1) := by decide +kernel
theorem dX9_apply_119 : decode cX9_apply 119 = .ok (.ireturn, 1) := by decide +kernel
theorem dJ9_floorMod_7cf53_0 : decode cJ9_floorMod_7cf53 0 = .ok (.iload_n 0, 1) := by decide +kernel
theorem dJ9_floorMod_7cf53_1 : decode cJ9_floorMod_7cf53 1 = .ok (.iload_n 1, 1) := by decide +kernel
theorem dJ9_floorMod_7cf53_2 : decode cJ9_floorMod_7cf53 2 = .ok (.irem, 1) := by decide +kernel
theorem dJ9_floorMod_7cf53_3 : decode cJ9_floorMod_7cf53 3 = .ok (.istore_n 2, 1) := by decide +kernel
theorem dJ9_floorMod_7cf53_4 : decode cJ9_floorMod_7cf53 4 = .ok (.iload_n 0, 1) := by decide +kernel
theorem dJ9_floorMod_7cf53_5 : decode cJ9_floorMod_7cf53 5 = .ok (.iload_n 1, 1) := by decide +kernel
theorem dJ9_floorMod_7cf53_6 : decode cJ9_floorMod_7cf53 6 = .ok (.ixor, 1) := by decide +kernel
theorem dJ9_floorMod_7cf53_7 : decode cJ9_floorMod_7cf53 7 = .ok (.ifCond .ge 11, 3) := by decide +kernel
theorem dJ9_floorMod_7cf53_10 : decode cJ9_floorMod_7cf53 10 = .ok (.iload_n 2, 1) := by decide +kernel
theorem dJ9_floorMod_7cf53_11 : decode cJ9_floorMod_7cf53 11 = .ok (.ifCond .eq 7, 3) := by decide +kernel
theorem dJ9_floorMod_7cf53_14 : decode cJ9_floorMod_7cf53 14 = .ok (.iload_n 2, 1) := by decide +kernel
theorem dJ9_floorMod_7cf53_15 : decode cJ9_floorMod_7cf53 15 = .ok (.iload_n 1, 1) := by decide +kernel
theorem dJ9_floorMod_7cf53_16 : decode cJ9_floorMod_7cf53 16 = .ok (.iadd, 1) := by decide +kernel
theorem dJ9_floorMod_7cf53_17 : decode cJ9_floorMod_7cf53 17 = .ok (.ireturn, 1) := by decide +kernel
theorem dJ9_floorMod_7cf53_18 : decode cJ9_floorMod_7cf53 18 = .ok (.iload_n 2, 1) := by decide +kernel
theorem dJ9_floorMod_7cf53_19 : decode cJ9_floorMod_7cf53 19 = .ok (.ireturn, 1) := by decide +kernel
theorem dJ9_abs_0f7a4_0 : decode cJ9_abs_0f7a4 0 = .ok (.iload_n 0, 1) := by decide +kernel
theorem dJ9_abs_0f7a4_1 : decode cJ9_abs_0f7a4 1 = .ok (.ifCond .ge 8, 3) := by decide +kernel
theorem dJ9_abs_0f7a4_4 : decode cJ9_abs_0f7a4 4 = .ok (.iload_n 0, 1) := by decide +kernel
theorem dJ9_abs_0f7a4_5 : decode cJ9_abs_0f7a4 5 = .ok (.ineg, 1) := by decide +kernel
theorem dJ9_abs_0f7a4_6 : decode cJ9_abs_0f7a4 6 = .ok (.goto 4, 3) := by decide +kernel
theorem dJ9_abs_0f7a4_9 : decode cJ9_abs_0f7a4 9 = .ok (.iload_n 0, 1) := by decide +kernel
theorem dJ9_abs_0f7a4_10 : decode cJ9_abs_0f7a4 10 = .ok (.ireturn, 1) := by decide +kernel
theorem dJ9_min_7cf53_0 : decode cJ9_min_7cf53 0 = .ok (.iload_n 0, 1) := by decide +kernel
theorem dJ9_min_7cf53_1 : decode cJ9_min_7cf53 1 = .ok (.iload_n 1, 1) := by decide +kernel
theorem dJ9_min_7cf53_2 : decode cJ9_min_7cf53 2 = .ok (.if_icmp .gt 7, 3) := by decide +kernel
theorem dJ9_min_7cf53_5 : decode cJ9_min_7cf53 5 = .ok (.iload_n 0, 1) := by decide +kernel
theorem dJ9_min_7cf53_6 : decode cJ9_min_7cf53 6 = .ok (.goto 4, 3) := by decide +kernel
theorem dJ9_min_7cf53_9 : decode cJ9_min_7cf53 9 = .ok (.iload_n 1, 1) := by decide +kernel
theorem dJ9_min_7cf53_10 : decode cJ9_min_7cf53 10 = .ok (.ireturn, 1) := by decide +kernel
theorem dJ7_fill_53178_0 : decode cJ7_fill_53178 0 = .ok (.iconst 0, 1) := by decide +kernel
theorem dJ7_fill_53178_1 : decode cJ7_fill_53178 1 = .ok (.istore_n 2, 1) := by decide +kernel
theorem dJ7_fill_53178_2 : decode cJ7_fill_53178 2 = .ok (.aload_n 0, 1) := by decide +kernel
theorem dJ7_fill_53178_3 : decode cJ7_fill_53178 3 = .ok (.arraylength, 1) := by decide +kernel
theorem dJ7_fill_53178_4 : decode cJ7_fill_53178 4 = .ok (.istore_n 3, 1) := by decide +kernel
theorem dJ7_fill_53178_5 : decode cJ7_fill_53178 5 = .ok (.iload_n 2, 1) := by decide +kernel
theorem dJ7_fill_53178_6 : decode cJ7_fill_53178 6 = .ok (.iload_n 3, 1) := by decide +kernel
theorem dJ7_fill_53178_7 : decode cJ7_fill_53178 7 = .ok (.if_icmp .ge 13, 3) := by decide +kernel
theorem dJ7_fill_53178_10 : decode cJ7_fill_53178 10 = .ok (.aload_n 0, 1) := by decide +kernel
theorem dJ7_fill_53178_11 : decode cJ7_fill_53178 11 = .ok (.iload_n 2, 1) := by decide +kernel
theorem dJ7_fill_53178_12 : decode cJ7_fill_53178 12 = .ok (.iload_n 1, 1) := by decide +kernel
theorem dJ7_fill_53178_13 : decode cJ7_fill_53178 13 = .ok (.iastore, 1) := by decide +kernel
theorem dJ7_fill_53178_14 : decode cJ7_fill_53178 14 = .ok (.iinc 2 1, 3) := by decide +kernel
theorem dJ7_fill_53178_17 : decode cJ7_fill_53178 17 = .ok (.goto (-12), 3) := by decide +kernel
theorem dJ7_fill_53178_20 : decode cJ7_fill_53178 20 = .ok (.return_, 1) := by decide +kernel
end
section
theorem dX10_init_0 : decode cX10_init 0 = .ok (.aload_n 0, 1) := by decide +kernel
theorem dX10_init_1 : decode cX10_init 1 = .ok (.invokespecial 1, 3) := by decide +kernel
theorem dX10_init_4 : decode cX10_init 4 = .ok (.aload_n 0, 1) := by decide +kernel
theorem dX10_init_5 : decode cX10_init 5 = .ok (.sipush 1558, 3) := by decide +kernel
theorem dX10_init_8 : decode cX10_init 8 = .ok (.newarray .int, 2) := by decide +kernel
theorem dX10_init_10 : decode cX10_init 10 = .ok (.putfield 7, 3) := by decide +kernel
theorem dX10_init_13 : decode cX10_init 13 = .ok (.aload_n 0, 1) := by decide +kernel
theorem dX10_init_14 : decode cX10_init 14 = .ok (.sipush 180, 3) := by decide +kernel
theorem dX10_init_17 : decode cX10_init 17 = .ok (.newarray .int, 2) := by decide +kernel
theorem dX10_init_19 : decode cX10_init 19 = .ok (.putfield 13, 3) := by decide +kernel
theorem dX10_init_22 : decode cX10_init 22 = .ok (.aload_n 0, 1) := by decide +kernel
theorem dX10_init_23 : decode cX10_init 23 = .ok (.iconst (-1), 1) := by decide +kernel
theorem dX10_init_24 : decode cX10_init 24 = .ok (.putfield 16, 3) := by decide +kernel
theorem dX10_init_27 : decode cX10_init 27 = .ok (.aload_n 0, 1) := by decide +kernel
theorem dX10_init_28 : decode cX10_init 28 = .ok (.bipush 31, 2) := by decide +kernel
theorem dX10_init_30 : decode cX10_init 30 = .ok (.newarray .int, 2) := by decide +kernel
theorem dX10_init_32 : decode cX10_init 32 = .ok (.putfield 20, 3) := by decide +kernel
theorem dX10_init_35 : decode cX10_init 35 = .ok (.aload_n 0, 1) := by decide +kernel
theorem dX10_init_36 : decode cX10_init 36 = .ok (.bipush 62, 2) := by decide +kernel
theorem dX10_init_38 : decode cX10_init 38 = .ok (.newarray .int, 2) := by decide +kernel
theorem dX10_init_40 : decode cX10_init 40 = .ok (.putfield 23, 3) := by decide +kernel
theorem dX10_init_43 : decode cX10_init 43 = .ok (.aload_n 0, 1) := by decide +kernel
theorem dX10_init_44 : decode cX10_init 44 = .ok (.iconst 2, 1) := by decide +kernel
theorem dX10_init_45 : decode cX10_init 45 = .ok (.newarray .int, 2) := by decide +kernel
theorem dX10_init_47 : decode cX10_init 47 = .ok (.putfield 26, 3) := by decide +kernel
theorem dX10_init_50 : decode cX10_init 50 = .ok (.aload_n 0, 1) := by decide +kernel
theorem dX10_init_51 : decode cX10_init 51 = .ok (.iconst 2, 1) := by decide +kernel
theorem dX10_init_52 : decode cX10_init 52 = .ok (.newarray .int, 2) := by decide +kernel
theorem dX10_init_54 : decode cX10_init 54 = .ok (.putfield 29, 3) := by decide +kernel
theorem dX10_init_57 : decode cX10_init 57 = .ok (.aload_n 0, 1) := by decide +kernel
theorem dX10_init_58 : decode cX10_init 58 = .ok (.bipush 20, 2) := by decide +kernel
theorem dX10_init_60 : decode cX10_init 60 = .ok (.newarray .int, 2) := by decide +kernel
theorem dX10_init_62 : decode cX10_init 62 = .ok (.putfield 32, 3) := by decide +kernel
theorem dX10_init_65 : decode cX10_init 65 = .ok (.aload_n 0, 1) := by decide +kernel
theorem dX10_init_66 : decode cX10_init 66 = .ok (.bipush 20, 2) := by decide +kernel
theorem dX10_init_68 : decode cX10_init 68 = .ok (.newarray .int, 2) := by decide +kernel
theorem dX10_init_70 : decode cX10_init 70 = .ok (.putfield 35, 3) := by decide +kernel
theorem dX10_init_73 : decode cX10_init 73 = .ok (.aload_n 0, 1) := by decide +kernel
theorem dX10_init_74 : decode cX10_init 74 = .ok (.bipush 20, 2) := by decide +kernel
theorem dX10_init_76 : decode cX10_init 76 = .ok (.newarray .int, 2) := by decide +kernel
theorem dX10_init_78 : decode cX10_init 78 = .ok (.putfield 38, 3) := by decide +kernel
theorem dX10_init_81 : decode cX10_init 81 = .ok (.aload_n 0, 1) := by decide +kernel
theorem dX10_init_82 : decode cX10_init 82 = .ok (.bipush 96, 2) := by decide +kernel
theorem dX10_init_84 : decode cX10_init 84 = .ok (.newarray .int, 2) := by decide +kernel
theorem dX10_init_86 : decode cX10_init 86 = .ok (.putfield 41, 3) := by decide +kernel
theorem dX10_init_89 : decode cX10_init 89 = .ok (.aload_n 0, 1) := by decide +kernel
theorem dX10_init_90 : decode cX10_init 90 = .ok (.bipush 82, 2) := by decide +kernel
theorem dX10_init_92 : decode cX10_init 92 = .ok (.newarray .int, 2) := by decide +kernel
theorem dX10_init_94 : decode cX10_init 94 = .ok (.putfield 44, 3) := by decide +kernel
theorem dX10_init_97 : decode cX10_init 97 = .ok (.aload_n 0, 1) := by decide +kernel
theorem dX10_init_98 : decode cX10_init 98 = .ok (.getfield 7, 3) := by decide +kernel
theorem dX10_init_101 : decode cX10_init 101 = .ok (.iconst 0, 1) := by decide +kernel
theorem dX10_init_102 : decode cX10_init 102 = .ok (.iconst 1, 1) := by decide +kernel
theorem dX10_init_103 : decode cX10_init 103 = .ok (.iastore, 1) := by decide +kernel
theorem dX10_init_104 : decode cX10_init 104 = .ok (.aload_n 0, 1) := by decide +kernel
theorem dX10_init_105 : decode cX10_init 105 = .ok (.getfield 7, 3) := by decide +kernel
theorem dX10_init_108 : decode cX10_init 108 = .ok (.iconst 1, 1) := by decide +kernel
theorem dX10_init_109 : decode cX10_init 109 = .ok (.iconst 1, 1) := by decide +kernel
theorem dX10_init_110 : decode cX10_init 110 = .ok (.iastore, 1) := by decide +kernel
theorem dX10_init_111 : decode cX10_init 111 = .ok (.return_, 1) := by decide +kernel
theorem dX10_in_0 : decode cX10_in 0 = .ok (.lload_n 0, 1) := by decide +kernel
theorem dX10_in_1 : decode cX10_in 1 = .ok (.lload_n 2, 1) := by decide +kernel
theorem dX10_in_2 : decode cX10_in 2 = .ok (.lcmp, 1) := by decide +kernel
theorem dX10_in_3 : decode cX10_in 3 = .ok (.ifCond .lt 14, 3) := by decide +kernel
theorem dX10_in_6 : decode cX10_in 6 = .ok (.lload_n 0, 1) := by decide +kernel
theorem dX10_in_7 : decode cX10_in 7 = .ok (.lload 4, 2) := by decide +kernel
theorem dX10_in_9 : decode cX10_in 9 = .ok (.lcmp, 1) := by decide +kernel
theorem dX10_in_10 : decode cX10_in 10 = .ok (.ifCond .gt 7, 3) := by decide +kernel
theorem dX10_in_13 : decode cX10_in 13 = .ok (.iconst 1, 1) := by decide +kernel
theorem dX10_in_14 : decode cX10_in 14 = .ok (.goto 4, 3) := by decide +kernel
theorem dX10_in_17 : decode cX10_in 17 = .ok (.iconst 0, 1) := by decide +kernel
theorem dX10_in_18 : decode cX10_in 18 = .ok (.ireturn, 1) := by decide +kernel
theorem dX10_copyRow_0 : decode cX10_copyRow 0 = .ok (.iconst 0, 1) := by decide +kernel
theorem dX10_copyRow_1 : decode cX10_copyRow 1 = .ok (.istore_n 3, 1) := by decide +kernel
theorem dX10_copyRow_2 : decode cX10_copyRow 2 = .ok (.iload_n 3, 1) := by decide +kernel
theorem dX10_copyRow_3 : decode cX10_copyRow 3 = .ok (.bipush 82, 2) := by decide +kernel
theorem dX10_copyRow_5 : decode cX10_copyRow 5 = .ok (.if_icmp .ge 25, 3) := by decide +kernel
theorem dX10_copyRow_8 : decode cX10_copyRow 8 = .ok (.aload_n 0, 1) := by decide +kernel
theorem dX10_copyRow_9 : decode cX10_copyRow 9 = .ok (.getfield 7, 3) := by decide +kernel
theorem dX10_copyRow_12 : decode cX10_copyRow 12 = .ok (.iload_n 2, 1) := by decide +kernel
theorem dX10_copyRow_13 : decode cX10_copyRow 13 = .ok (.iload_n 3, 1) := by decide +kernel
theorem dX10_copyRow_14 : decode cX10_copyRow 14 = .ok (.iadd, 1) := by decide +kernel
theorem dX10_copyRow_15 : decode cX10_copyRow 15 = .ok (.aload_n 0, 1) := by decide +kernel
theorem dX10_copyRow_16 : decode cX10_copyRow 16 = .ok (.getfield 7, 3) := by decide +kernel
theorem dX10_copyRow_19 : decode cX10_copyRow 19 = .ok (.iload_n 1, 1) := by decide +kernel
theorem dX10_copyRow_20 : decode cX10_copyRow 20 = .ok (.iload_n 3, 1) := by decide +kernel
theorem dX10_copyRow_21 : decode cX10_copyRow 21 = .ok (.iadd, 1) := by decide +kernel
theorem dX10_copyRow_22 : decode cX10_copyRow 22 = .ok (.iaload, 1) := by decide +kernel
theorem dX10_copyRow_23 : decode cX10_copyRow 23 = .ok (.iastore, 1) := by decide +kernel
theorem dX10_copyRow_24 : decode cX10_copyRow 24 = .ok (.iinc 3 1, 3) := by decide +kernel
theorem dX10_copyRow_27 : decode cX10_copyRow 27 = .ok (.goto (-25), 3) := by decide +kernel
theorem dX10_copyRow_30 : decode cX10_copyRow 30 = .ok (.return_, 1) := by decide +kernel
theorem dX10_remember_0 : decode cX10_remember 0 = .ok (.bipush 16, 2) := by decide +kernel
theorem dX10_remember_2 : decode cX10_remember 2 = .ok (.istore_n 1, 1) := by decide +kernel
theorem dX10_remember_3 : decode cX10_remember 3 = .ok (.iload_n 1, 1) := by decide +kernel
theorem dX10_remember_4 : decode cX10_remember 4 = .ok (.ifCond .le 23, 3) := by decide +kernel
theorem dX10_remember_7 : decode cX10_remember 7 = .ok (.aload_n 0, 1) := by decide +kernel
theorem dX10_remember_8 : decode cX10_remember 8 = .ok (.bipush 82, 2) := by decide +kernel
theorem dX10_remember_10 : decode cX10_remember 10 = .ok (.iload_n 1, 1) := by decide +kernel
theorem dX10_remember_11 : decode cX10_remember 11 = .ok (.iconst 1, 1) := by decide +kernel
theorem dX10_remember_12 : decode cX10_remember 12 = .ok (.isub, 1) := by decide +kernel
theorem dX10_remember_13 : decode cX10_remember 13 = .ok (.imul, 1) := by decide +kernel
theorem dX10_remember_14 : decode cX10_remember 14 = .ok (.bipush 82, 2) := by decide +kernel
theorem dX10_remember_16 : decode cX10_remember 16 = .ok (.iload_n 1, 1) := by decide +kernel
theorem dX10_remember_17 : decode cX10_remember 17 = .ok (.imul, 1) := by decide +kernel
theorem dX10_remember_18 : decode cX10_remember 18 = .ok (.invokevirtual 47, 3) := by decide +kernel
theorem dX10_remember_21 : decode cX10_remember 21 = .ok (.iinc 1 (-1), 3) := by decide +kernel
theorem dX10_remember_24 : decode cX10_remember 24 = .ok (.goto (-21), 3) := by decide +kernel
theorem dX10_remember_27 : decode cX10_remember 27 = .ok (.aload_n 0, 1) := by decide +kernel
theorem dX10_remember_28 : decode cX10_remember 28 = .ok (.aload_n 0, 1) := by decide +kernel
theorem dX10_remember_29 : decode cX10_remember 29 = .ok (.getfield 51, 3) := by decide +kernel
theorem dX10_remember_32 : decode cX10_remember 32 = .ok (.bipush 16, 2) := by decide +kernel
theorem dX10_remember_34 : decode cX10_remember 34 = .ok (.if_icmp .ge 12, 3) := by decide +kernel
theorem dX10_remember_37 : decode cX10_remember 37 = .ok (.aload_n 0, 1) := by decide +kernel
theorem dX10_remember_38 : decode cX10_remember 38 = .ok (.getfield 51, 3) := by decide +kernel
theorem dX10_remember_41 : decode cX10_remember 41 = .ok (.iconst 1, 1) := by decide +kernel
theorem dX10_remember_42 : decode cX10_remember 42 = .ok (.iadd, 1) := by decide +kernel
theorem dX10_remember_43 : decode cX10_remember 43 = .ok (.goto 5, 3) := by decide +kernel
theorem dX10_remember_46 : decode cX10_remember 46 = .ok (.bipush 16, 2) := by decide +kernel
theorem dX10_remember_48 : decode cX10_remember 48 = .ok (.putfield 51, 3) := by decide +kernel
theorem dX10_remember_51 : decode cX10_remember 51 = .ok (.return_, 1) := by decide +kernel
theorem dX10_place_0 : decode cX10_place 0 = .ok (.iconst 2, 1) := by decide +kernel
theorem dX10_place_1 : decode cX10_place 1 = .ok (.bipush 10, 2) := by decide +kernel
theorem dX10_place_3 : decode cX10_place 3 = .ok (.iload_n 2, 1) := by decide +kernel
theorem dX10_place_4 : decode cX10_place 4 = .ok (.imul, 1) := by decide +kernel
theorem dX10_place_5 : decode cX10_place 5 = .ok (.iadd, 1) := by decide +kernel
theorem dX10_place_6 : decode cX10_place 6 = .ok (.iload_n 1, 1) := by decide +kernel
theorem dX10_place_7 : decode cX10_place 7 = .ok (.iadd, 1) := by decide +kernel
theorem dX10_place_8 : decode cX10_place 8 = .ok (.ireturn, 1) := by decide +kernel
theorem dX10_grey_0 : decode cX10_grey 0 = .ok (.aload_n 0, 1) := by decide +kernel
theorem dX10_grey_1 : decode cX10_grey 1 = .ok (.getfield 7, 3) := by decide +kernel
theorem dX10_grey_4 : decode cX10_grey 4 = .ok (.aload_n 0, 1) := by decide +kernel
theorem dX10_grey_5 : decode cX10_grey 5 = .ok (.iload_n 1, 1) := by decide +kernel
theorem dX10_grey_6 : decode cX10_grey 6 = .ok (.iload_n 2, 1) := by decide +kernel
theorem dX10_grey_7 : decode cX10_grey 7 = .ok (.invokevirtual 54, 3) := by decide +kernel
theorem dX10_grey_10 : decode cX10_grey 10 = .ok (.iaload, 1) := by decide +kernel
theorem dX10_grey_11 : decode cX10_grey 11 = .ok (.sipush 256, 3) := by decide +kernel
theorem dX10_grey_14 : decode cX10_grey 14 = .ok (.irem, 1) := by decide +kernel
theorem dX10_grey_15 : decode cX10_grey 15 = .ok (.ireturn, 1) := by decide +kernel
theorem dX10_isMasked_0 : decode cX10_isMasked 0 = .ok (.aload_n 0, 1) := by decide +kernel
theorem dX10_isMasked_1 : decode cX10_isMasked 1 = .ok (.getfield 7, 3) := by decide +kernel
theorem dX10_isMasked_4 : decode cX10_isMasked 4 = .ok (.aload_n 0, 1) := by decide +kernel
theorem dX10_isMasked_5 : decode cX10_isMasked 5 = .ok (.iload_n 1, 1) := by decide +kernel
theorem dX10_isMasked_6 : decode cX10_isMasked 6 = .ok (.iload_n 2, 1) := by decide +kernel
theorem dX10_isMasked_7 : decode cX10_isMasked 7 = .ok (.invokevirtual 54, 3) := by decide +kernel
theorem dX10_isMasked_10 : decode cX10_isMasked 10 = .ok (.iaload, 1) := by decide +kernel
theorem dX10_isMasked_11 : decode cX10_isMasked 11 = .ok (.sipush 256, 3) := by decide +kernel
theorem dX10_isMasked_14 : decode cX10_isMasked 14 = .ok (.if_icmp .lt 7, 3) := by decide +kernel
theorem dX10_isMasked_17 : decode cX10_isMasked 17 = .ok (.iconst 1, 1) := by decide +kernel
theorem dX10_isMasked_18 : decode cX10_isMasked 18 = .ok (.goto 4, 3) := by decide +kernel
theorem dX10_isMasked_21 : decode cX10_isMasked 21 = .ok (.iconst 0, 1) := by decide +kernel
theorem dX10_isMasked_22 : decode cX10_isMasked 22 = .ok (.ireturn, 1) := by decide +kernel
theorem dX10_isDot_0 : decode cX10_isDot 0 = .ok (.iload_n 1, 1) := by decide +kernel
theorem dX10_isDot_1 : decode cX10_isDot 1 = .ok (.i2l, 1) := by decide +kernel
theorem dX10_isDot_2 : decode cX10_isDot 2 = .ok (.lconst 0, 1) := by decide +kernel
theorem dX10_isDot_3 : decode cX10_isDot 3 = .ok (.aload_n 0, 1) := by decide +kernel
theorem dX10_isDot_4 : decode cX10_isDot 4 = .ok (.getfield 7, 3) := by decide +kernel
theorem dX10_isDot_7 : decode cX10_isDot 7 = .ok (.iconst 0, 1) := by decide +kernel
theorem dX10_isDot_8 : decode cX10_isDot 8 = .ok (.iaload, 1) := by decide +kernel
theorem dX10_isDot_9 : decode cX10_isDot 9 = .ok (.iconst 1, 1) := by decide +kernel
theorem dX10_isDot_10 : decode cX10_isDot 10 = .ok (.isub, 1) := by decide +kernel
theorem dX10_isDot_11 : decode cX10_isDot 11 = .ok (.i2l, 1) := by decide +kernel
theorem dX10_isDot_12 : decode cX10_isDot 12 = .ok (.invokestatic 58, 3) := by decide +kernel
theorem dX10_isDot_15 : decode cX10_isDot 15 = .ok (.ifCond .eq 25, 3) := by decide +kernel
theorem dX10_isDot_18 : decode cX10_isDot 18 = .ok (.iload_n 2, 1) := by decide +kernel
theorem dX10_isDot_19 : decode cX10_isDot 19 = .ok (.i2l, 1) := by decide +kernel
theorem dX10_isDot_20 : decode cX10_isDot 20 = .ok (.lconst 0, 1) := by decide +kernel
theorem dX10_isDot_21 : decode cX10_isDot 21 = .ok (.aload_n 0, 1) := by decide +kernel
theorem dX10_isDot_22 : decode cX10_isDot 22 = .ok (.getfield 7, 3) := by decide +kernel
theorem dX10_isDot_25 : decode cX10_isDot 25 = .ok (.iconst 1, 1) := by decide +kernel
theorem dX10_isDot_26 : decode cX10_isDot 26 = .ok (.iaload, 1) := by decide +kernel
theorem dX10_isDot_27 : decode cX10_isDot 27 = .ok (.iconst 1, 1) := by decide +kernel
theorem dX10_isDot_28 : decode cX10_isDot 28 = .ok (.isub, 1) := by decide +kernel
theorem dX10_isDot_29 : decode cX10_isDot 29 = .ok (.i2l, 1) := by decide +kernel
theorem dX10_isDot_30 : decode cX10_isDot 30 = .ok (.invokestatic 58, 3) := by decide +kernel
theorem dX10_isDot_33 : decode cX10_isDot 33 = .ok (.ifCond .eq 7, 3) := by decide +kernel
theorem dX10_isDot_36 : decode cX10_isDot 36 = .ok (.iconst 1, 1) := by decide +kernel
theorem dX10_isDot_37 : decode cX10_isDot 37 = .ok (.goto 4, 3) := by decide +kernel
theorem dX10_isDot_40 : decode cX10_isDot 40 = .ok (.iconst 0, 1) := by decide +kernel
theorem dX10_isDot_41 : decode cX10_isDot 41 = .ok (.ireturn, 1) := by decide +kernel
theorem dX10_setGrey_0 : decode cX10_setGrey 0 = .ok (.aload_n 0, 1) := by decide +kernel
theorem dX10_setGrey_1 : decode cX10_setGrey 1 = .ok (.getfield 7, 3) := by decide +kernel
theorem dX10_setGrey_4 : decode cX10_setGrey 4 = .ok (.aload_n 0, 1) := by decide +kernel
theorem dX10_setGrey_5 : decode cX10_setGrey 5 = .ok (.iload_n 1, 1) := by decide +kernel
theorem dX10_setGrey_6 : decode cX10_setGrey 6 = .ok (.iload_n 2, 1) := by decide +kernel
theorem dX10_setGrey_7 : decode cX10_setGrey 7 = .ok (.invokevirtual 54, 3) := by decide +kernel
theorem dX10_setGrey_10 : decode cX10_setGrey 10 = .ok (.iload_n 3, 1) := by decide +kernel
theorem dX10_setGrey_11 : decode cX10_setGrey 11 = .ok (.aload_n 0, 1) := by decide +kernel
theorem dX10_setGrey_12 : decode cX10_setGrey 12 = .ok (.iload_n 1, 1) := by decide +kernel
theorem dX10_setGrey_13 : decode cX10_setGrey 13 = .ok (.iload_n 2, 1) := by decide +kernel
theorem dX10_setGrey_14 : decode cX10_setGrey 14 = .ok (.invokevirtual 62, 3) := by decide +kernel
theorem dX10_setGrey_17 : decode cX10_setGrey 17 = .ok (.ifCond .eq 9, 3) := by decide +kernel
theorem dX10_setGrey_20 : decode cX10_setGrey 20 = .ok (.sipush 256, 3) := by decide +kernel
theorem dX10_setGrey_23 : decode cX10_setGrey 23 = .ok (.goto 4, 3) := by decide +kernel
theorem dX10_setGrey_26 : decode cX10_setGrey 26 = .ok (.iconst 0, 1) := by decide +kernel
theorem dX10_setGrey_27 : decode cX10_setGrey 27 = .ok (.iadd, 1) := by decide +kernel
theorem dX10_setGrey_28 : decode cX10_setGrey 28 = .ok (.iastore, 1) := by decide +kernel
theorem dX10_setGrey_29 : decode cX10_setGrey 29 = .ok (.return_, 1) := by decide +kernel
theorem dX10_figure_0 : decode cX10_figure 0 = .ok (.iload_n 0, 1) := by decide +kernel
theorem dX10_figure_1 : decode cX10_figure 1 = .ok (.i2l, 1) := by decide +kernel
theorem dX10_figure_2 : decode cX10_figure 2 = .ok (.ldc2_w 66, 3) := by decide +kernel
theorem dX10_figure_5 : decode cX10_figure 5 = .ok (.ldc2_w 68, 3) := by decide +kernel
theorem dX10_figure_8 : decode cX10_figure 8 = .ok (.invokestatic 58, 3) := by decide +kernel
theorem dX10_figure_11 : decode cX10_figure 11 = .ok (.ifCond .eq 10, 3) := by decide +kernel
theorem dX10_figure_14 : decode cX10_figure 14 = .ok (.iload_n 0, 1) := by decide +kernel
theorem dX10_figure_15 : decode cX10_figure 15 = .ok (.bipush 48, 2) := by decide +kernel
theorem dX10_figure_17 : decode cX10_figure 17 = .ok (.isub, 1) := by decide +kernel
theorem dX10_figure_18 : decode cX10_figure 18 = .ok (.goto 28, 3) := by decide +kernel
theorem dX10_figure_21 : decode cX10_figure 21 = .ok (.iload_n 0, 1) := by decide +kernel
theorem dX10_figure_22 : decode cX10_figure 22 = .ok (.i2l, 1) := by decide +kernel
theorem dX10_figure_23 : decode cX10_figure 23 = .ok (.ldc2_w 70, 3) := by decide +kernel
theorem dX10_figure_26 : decode cX10_figure 26 = .ok (.ldc2_w 72, 3) := by decide +kernel
theorem dX10_figure_29 : decode cX10_figure 29 = .ok (.invokestatic 58, 3) := by decide +kernel
theorem dX10_figure_32 : decode cX10_figure 32 = .ok (.ifCond .eq 13, 3) := by decide +kernel
theorem dX10_figure_35 : decode cX10_figure 35 = .ok (.iload_n 0, 1) := by decide +kernel
theorem dX10_figure_36 : decode cX10_figure 36 = .ok (.bipush 97, 2) := by decide +kernel
theorem dX10_figure_38 : decode cX10_figure 38 = .ok (.isub, 1) := by decide +kernel
theorem dX10_figure_39 : decode cX10_figure 39 = .ok (.bipush 10, 2) := by decide +kernel
theorem dX10_figure_41 : decode cX10_figure 41 = .ok (.iadd, 1) := by decide +kernel
theorem dX10_figure_42 : decode cX10_figure 42 = .ok (.goto 4, 3) := by decide +kernel
theorem dX10_figure_45 : decode cX10_figure 45 = .ok (.iconst (-1), 1) := by decide +kernel
theorem dX10_figure_46 : decode cX10_figure 46 = .ok (.ireturn, 1) := by decide +kernel
theorem dX10_isShort_0 : decode cX10_isShort 0 = .ok (.aload_n 0, 1) := by decide +kernel
theorem dX10_isShort_1 : decode cX10_isShort 1 = .ok (.getfield 74, 3) := by decide +kernel
theorem dX10_isShort_4 : decode cX10_isShort 4 = .ok (.ifCond .le 18, 3) := by decide +kernel
theorem dX10_isShort_7 : decode cX10_isShort 7 = .ok (.aload_n 0, 1) := by decide +kernel
theorem dX10_isShort_8 : decode cX10_isShort 8 = .ok (.getfield 77, 3) := by decide +kernel
theorem dX10_isShort_11 : decode cX10_isShort 11 = .ok (.aload_n 0, 1) := by decide +kernel
theorem dX10_isShort_12 : decode cX10_isShort 12 = .ok (.getfield 80, 3) := by decide +kernel
theorem dX10_isShort_15 : decode cX10_isShort 15 = .ok (.if_icmp .ge 7, 3) := by decide +kernel
theorem dX10_isShort_18 : decode cX10_isShort 18 = .ok (.iconst 1, 1) := by decide +kernel
theorem dX10_isShort_19 : decode cX10_isShort 19 = .ok (.goto 4, 3) := by decide +kernel
theorem dX10_isShort_22 : decode cX10_isShort 22 = .ok (.iconst 0, 1) := by decide +kernel
theorem dX10_isShort_23 : decode cX10_isShort 23 = .ok (.ireturn, 1) := by decide +kernel
theorem dX10_faultOfBreak_0 : decode cX10_faultOfBreak 0 = .ok (.aload_n 0, 1) := by decide +kernel
theorem dX10_faultOfBreak_1 : decode cX10_faultOfBreak 1 = .ok (.getfield 83, 3) := by decide +kernel
theorem dX10_faultOfBreak_4 : decode cX10_faultOfBreak 4 = .ok (.ifCond .gt 10, 3) := by decide +kernel
theorem dX10_faultOfBreak_7 : decode cX10_faultOfBreak 7 = .ok (.aload_n 0, 1) := by decide +kernel
theorem dX10_faultOfBreak_8 : decode cX10_faultOfBreak 8 = .ok (.getfield 77, 3) := by decide +kernel
theorem dX10_faultOfBreak_11 : decode cX10_faultOfBreak 11 = .ok (.ifCond .ne 5, 3) := by decide +kernel
theorem dX10_faultOfBreak_14 : decode cX10_faultOfBreak 14 = .ok (.iconst 1, 1) := by decide +kernel
theorem dX10_faultOfBreak_15 : decode cX10_faultOfBreak 15 = .ok (.ireturn, 1) := by decide +kernel
theorem dX10_faultOfBreak_16 : decode cX10_faultOfBreak 16 = .ok (.aload_n 0, 1) := by decide +kernel
theorem dX10_faultOfBreak_17 : decode cX10_faultOfBreak 17 = .ok (.invokevirtual 86, 3) := by decide +kernel
theorem dX10_faultOfBreak_20 : decode cX10_faultOfBreak 20 = .ok (.ifCond .eq 7, 3) := by decide +kernel
theorem dX10_faultOfBreak_23 : decode cX10_faultOfBreak 23 = .ok (.iconst 2, 1) := by decide +kernel
theorem dX10_faultOfBreak_24 : decode cX10_faultOfBreak 24 = .ok (.goto 17, 3) := by decide +kernel
theorem dX10_faultOfBreak_27 : decode cX10_faultOfBreak 27 = .ok (.aload_n 0, 1) := by decide +kernel
theorem dX10_faultOfBreak_28 : decode cX10_faultOfBreak 28 = .ok (.getfield 74, 3) := by decide +kernel
theorem dX10_faultOfBreak_31 : decode cX10_faultOfBreak 31 = .ok (.bipush 7, 2) := by decide +kernel
theorem dX10_faultOfBreak_33 : decode cX10_faultOfBreak 33 = .ok (.if_icmp .ne 7, 3) := by decide +kernel
theorem dX10_faultOfBreak_36 : decode cX10_faultOfBreak 36 = .ok (.iconst 3, 1) := by decide +kernel
theorem dX10_faultOfBreak_37 : decode cX10_faultOfBreak 37 = .ok (.goto 4, 3) := by decide +kernel
theorem dX10_faultOfBreak_40 : decode cX10_faultOfBreak 40 = .ok (.iconst 0, 1) := by decide +kernel
theorem dX10_faultOfBreak_41 : decode cX10_faultOfBreak 41 = .ok (.ireturn, 1) := by decide +kernel
theorem dX10_faultOf_0 : decode cX10_faultOf 0 = .ok (.iload_n 1, 1) := by decide +kernel
theorem dX10_faultOf_1 : decode cX10_faultOf 1 = .ok (.bipush 47, 2) := by decide +kernel
theorem dX10_faultOf_3 : decode cX10_faultOf 3 = .ok (.if_icmp .ne 8, 3) := by decide +kernel
theorem dX10_faultOf_6 : decode cX10_faultOf 6 = .ok (.aload_n 0, 1) := by decide +kernel
theorem dX10_faultOf_7 : decode cX10_faultOf 7 = .ok (.invokevirtual 90, 3) := by decide +kernel
theorem dX10_faultOf_10 : decode cX10_faultOf 10 = .ok (.ireturn, 1) := by decide +kernel
theorem dX10_faultOf_11 : decode cX10_faultOf 11 = .ok (.iload_n 1, 1) := by decide +kernel
theorem dX10_faultOf_12 : decode cX10_faultOf 12 = .ok (.bipush 45, 2) := by decide +kernel
theorem dX10_faultOf_14 : decode cX10_faultOf 14 = .ok (.if_icmp .ne 7, 3) := by decide +kernel
theorem dX10_faultOf_17 : decode cX10_faultOf 17 = .ok (.iconst 1, 1) := by decide +kernel
theorem dX10_faultOf_18 : decode cX10_faultOf 18 = .ok (.goto 4, 3) := by decide +kernel
theorem dX10_faultOf_21 : decode cX10_faultOf 21 = .ok (.iconst 0, 1) := by decide +kernel
theorem dX10_faultOf_22 : decode cX10_faultOf 22 = .ok (.istore_n 2, 1) := by decide +kernel
theorem dX10_faultOf_23 : decode cX10_faultOf 23 = .ok (.iload_n 2, 1) := by decide +kernel
theorem dX10_faultOf_24 : decode cX10_faultOf 24 = .ok (.ifCond .ne 12, 3) := by decide +kernel
theorem dX10_faultOf_27 : decode cX10_faultOf 27 = .ok (.iload_n 1, 1) := by decide +kernel
theorem dX10_faultOf_28 : decode cX10_faultOf 28 = .ok (.invokestatic 94, 3) := by decide +kernel
theorem dX10_faultOf_31 : decode cX10_faultOf 31 = .ok (.ifCond .ge 5, 3) := by decide +kernel
theorem dX10_faultOf_34 : decode cX10_faultOf 34 = .ok (.iconst 1, 1) := by decide +kernel
theorem dX10_faultOf_35 : decode cX10_faultOf 35 = .ok (.ireturn, 1) := by decide +kernel
theorem dX10_faultOf_36 : decode cX10_faultOf 36 = .ok (.aload_n 0, 1) := by decide +kernel
theorem dX10_faultOf_37 : decode cX10_faultOf 37 = .ok (.getfield 83, 3) := by decide +kernel
theorem dX10_faultOf_40 : decode cX10_faultOf 40 = .ok (.ifCond .le 27, 3) := by decide +kernel
theorem dX10_faultOf_43 : decode cX10_faultOf 43 = .ok (.aload_n 0, 1) := by decide +kernel
theorem dX10_faultOf_44 : decode cX10_faultOf 44 = .ok (.getfield 83, 3) := by decide +kernel
theorem dX10_faultOf_47 : decode cX10_faultOf 47 = .ok (.bipush 15, 2) := by decide +kernel
theorem dX10_faultOf_49 : decode cX10_faultOf 49 = .ok (.if_icmp .ne 7, 3) := by decide +kernel
theorem dX10_faultOf_52 : decode cX10_faultOf 52 = .ok (.iconst 1, 1) := by decide +kernel
theorem dX10_faultOf_53 : decode cX10_faultOf 53 = .ok (.goto 4, 3) := by decide +kernel
theorem dX10_faultOf_56 : decode cX10_faultOf 56 = .ok (.iconst 0, 1) := by decide +kernel
theorem dX10_faultOf_57 : decode cX10_faultOf 57 = .ok (.iload_n 2, 1) := by decide +kernel
theorem dX10_faultOf_58 : decode cX10_faultOf 58 = .ok (.if_icmp .ne 7, 3) := by decide +kernel
theorem dX10_faultOf_61 : decode cX10_faultOf 61 = .ok (.iconst 0, 1) := by decide +kernel
theorem dX10_faultOf_62 : decode cX10_faultOf 62 = .ok (.goto 4, 3) := by decide +kernel
theorem dX10_faultOf_65 : decode cX10_faultOf 65 = .ok (.iconst 1, 1) := by decide +kernel
theorem dX10_faultOf_66 : decode cX10_faultOf 66 = .ok (.ireturn, 1) := by decide +kernel
theorem dX10_faultOf_67 : decode cX10_faultOf 67 = .ok (.aload_n 0, 1) := by decide +kernel
theorem dX10_faultOf_68 : decode cX10_faultOf 68 = .ok (.getfield 77, 3) := by decide +kernel
theorem dX10_faultOf_71 : decode cX10_faultOf 71 = .ok (.bipush 10, 2) := by decide +kernel
theorem dX10_faultOf_73 : decode cX10_faultOf 73 = .ok (.if_icmp .eq 21, 3) := by decide +kernel
theorem dX10_faultOf_76 : decode cX10_faultOf 76 = .ok (.aload_n 0, 1) := by decide +kernel
theorem dX10_faultOf_77 : decode cX10_faultOf 77 = .ok (.getfield 74, 3) := by decide +kernel
theorem dX10_faultOf_80 : decode cX10_faultOf 80 = .ok (.ifCond .le 18, 3) := by decide +kernel
theorem dX10_faultOf_83 : decode cX10_faultOf 83 = .ok (.aload_n 0, 1) := by decide +kernel
theorem dX10_faultOf_84 : decode cX10_faultOf 84 = .ok (.getfield 77, 3) := by decide +kernel
theorem dX10_faultOf_87 : decode cX10_faultOf 87 = .ok (.aload_n 0, 1) := by decide +kernel
theorem dX10_faultOf_88 : decode cX10_faultOf 88 = .ok (.getfield 80, 3) := by decide +kernel
theorem dX10_faultOf_91 : decode cX10_faultOf 91 = .ok (.if_icmp .ne 7, 3) := by decide +kernel
theorem dX10_faultOf_94 : decode cX10_faultOf 94 = .ok (.iconst 2, 1) := by decide +kernel
theorem dX10_faultOf_95 : decode cX10_faultOf 95 = .ok (.goto 4, 3) := by decide +kernel
theorem dX10_faultOf_98 : decode cX10_faultOf 98 = .ok (.iconst 0, 1) := by decide +kernel
theorem dX10_faultOf_99 : decode cX10_faultOf 99 = .ok (.ireturn, 1) := by decide +kernel
theorem dX10_goOn_0 : decode cX10_goOn 0 = .ok (.iload_n 1, 1) := by decide +kernel
theorem dX10_goOn_1 : decode cX10_goOn 1 = .ok (.bipush 47, 2) := by decide +kernel
theorem dX10_goOn_3 : decode cX10_goOn 3 = .ok (.if_icmp .ne 43, 3) := by decide +kernel
theorem dX10_goOn_6 : decode cX10_goOn 6 = .ok (.aload_n 0, 1) := by decide +kernel
theorem dX10_goOn_7 : decode cX10_goOn 7 = .ok (.aload_n 0, 1) := by decide +kernel
theorem dX10_goOn_8 : decode cX10_goOn 8 = .ok (.getfield 74, 3) := by decide +kernel
theorem dX10_goOn_11 : decode cX10_goOn 11 = .ok (.ifCond .ne 10, 3) := by decide +kernel
theorem dX10_goOn_14 : decode cX10_goOn 14 = .ok (.aload_n 0, 1) := by decide +kernel
theorem dX10_goOn_15 : decode cX10_goOn 15 = .ok (.getfield 77, 3) := by decide +kernel
theorem dX10_goOn_18 : decode cX10_goOn 18 = .ok (.goto 7, 3) := by decide +kernel
theorem dX10_goOn_21 : decode cX10_goOn 21 = .ok (.aload_n 0, 1) := by decide +kernel
theorem dX10_goOn_22 : decode cX10_goOn 22 = .ok (.getfield 80, 3) := by decide +kernel
theorem dX10_goOn_25 : decode cX10_goOn 25 = .ok (.putfield 80, 3) := by decide +kernel
theorem dX10_goOn_28 : decode cX10_goOn 28 = .ok (.aload_n 0, 1) := by decide +kernel
theorem dX10_goOn_29 : decode cX10_goOn 29 = .ok (.dup, 1) := by decide +kernel
theorem dX10_goOn_30 : decode cX10_goOn 30 = .ok (.getfield 74, 3) := by decide +kernel
theorem dX10_goOn_33 : decode cX10_goOn 33 = .ok (.iconst 1, 1) := by decide +kernel
theorem dX10_goOn_34 : decode cX10_goOn 34 = .ok (.iadd, 1) := by decide +kernel
theorem dX10_goOn_35 : decode cX10_goOn 35 = .ok (.putfield 74, 3) := by decide +kernel
theorem dX10_goOn_38 : decode cX10_goOn 38 = .ok (.aload_n 0, 1) := by decide +kernel
theorem dX10_goOn_39 : decode cX10_goOn 39 = .ok (.iconst 0, 1) := by decide +kernel
theorem dX10_goOn_40 : decode cX10_goOn 40 = .ok (.putfield 77, 3) := by decide +kernel
theorem dX10_goOn_43 : decode cX10_goOn 43 = .ok (.goto 50, 3) := by decide +kernel
theorem dX10_goOn_46 : decode cX10_goOn 46 = .ok (.aload_n 0, 1) := by decide +kernel
theorem dX10_goOn_47 : decode cX10_goOn 47 = .ok (.getfield 83, 3) := by decide +kernel
theorem dX10_goOn_50 : decode cX10_goOn 50 = .ok (.ifCond .ne 28, 3) := by decide +kernel
theorem dX10_goOn_53 : decode cX10_goOn 53 = .ok (.aload_n 0, 1) := by decide +kernel
theorem dX10_goOn_54 : decode cX10_goOn 54 = .ok (.iload_n 1, 1) := by decide +kernel
theorem dX10_goOn_55 : decode cX10_goOn 55 = .ok (.bipush 45, 2) := by decide +kernel
theorem dX10_goOn_57 : decode cX10_goOn 57 = .ok (.if_icmp .ne 8, 3) := by decide +kernel
theorem dX10_goOn_60 : decode cX10_goOn 60 = .ok (.bipush 15, 2) := by decide +kernel
theorem dX10_goOn_62 : decode cX10_goOn 62 = .ok (.goto 10, 3) := by decide +kernel
theorem dX10_goOn_65 : decode cX10_goOn 65 = .ok (.bipush 16, 2) := by decide +kernel
theorem dX10_goOn_67 : decode cX10_goOn 67 = .ok (.iload_n 1, 1) := by decide +kernel
theorem dX10_goOn_68 : decode cX10_goOn 68 = .ok (.invokestatic 94, 3) := by decide +kernel
theorem dX10_goOn_71 : decode cX10_goOn 71 = .ok (.iadd, 1) := by decide +kernel
theorem dX10_goOn_72 : decode cX10_goOn 72 = .ok (.putfield 83, 3) := by decide +kernel
theorem dX10_goOn_75 : decode cX10_goOn 75 = .ok (.goto 18, 3) := by decide +kernel
theorem dX10_goOn_78 : decode cX10_goOn 78 = .ok (.aload_n 0, 1) := by decide +kernel
theorem dX10_goOn_79 : decode cX10_goOn 79 = .ok (.iconst 0, 1) := by decide +kernel
theorem dX10_goOn_80 : decode cX10_goOn 80 = .ok (.putfield 83, 3) := by decide +kernel
theorem dX10_goOn_83 : decode cX10_goOn 83 = .ok (.aload_n 0, 1) := by decide +kernel
theorem dX10_goOn_84 : decode cX10_goOn 84 = .ok (.dup, 1) := by decide +kernel
theorem dX10_goOn_85 : decode cX10_goOn 85 = .ok (.getfield 77, 3) := by decide +kernel
theorem dX10_goOn_88 : decode cX10_goOn 88 = .ok (.iconst 1, 1) := by decide +kernel
theorem dX10_goOn_89 : decode cX10_goOn 89 = .ok (.iadd, 1) := by decide +kernel
theorem dX10_goOn_90 : decode cX10_goOn 90 = .ok (.putfield 77, 3) := by decide +kernel
theorem dX10_goOn_93 : decode cX10_goOn 93 = .ok (.return_, 1) := by decide +kernel
theorem dX10_readText_0 : decode cX10_readText 0 = .ok (.aload_n 0, 1) := by decide +kernel
theorem dX10_readText_1 : decode cX10_readText 1 = .ok (.iconst 0, 1) := by decide +kernel
theorem dX10_readText_2 : decode cX10_readText 2 = .ok (.putfield 74, 3) := by decide +kernel
theorem dX10_readText_5 : decode cX10_readText 5 = .ok (.aload_n 0, 1) := by decide +kernel
theorem dX10_readText_6 : decode cX10_readText 6 = .ok (.iconst 0, 1) := by decide +kernel
theorem dX10_readText_7 : decode cX10_readText 7 = .ok (.putfield 77, 3) := by decide +kernel
theorem dX10_readText_10 : decode cX10_readText 10 = .ok (.aload_n 0, 1) := by decide +kernel
theorem dX10_readText_11 : decode cX10_readText 11 = .ok (.iconst 0, 1) := by decide +kernel
theorem dX10_readText_12 : decode cX10_readText 12 = .ok (.putfield 80, 3) := by decide +kernel
theorem dX10_readText_15 : decode cX10_readText 15 = .ok (.aload_n 0, 1) := by decide +kernel
theorem dX10_readText_16 : decode cX10_readText 16 = .ok (.iconst 0, 1) := by decide +kernel
theorem dX10_readText_17 : decode cX10_readText 17 = .ok (.putfield 83, 3) := by decide +kernel
theorem dX10_readText_20 : decode cX10_readText 20 = .ok (.iconst 0, 1) := by decide +kernel
theorem dX10_readText_21 : decode cX10_readText 21 = .ok (.istore_n 1, 1) := by decide +kernel
theorem dX10_readText_22 : decode cX10_readText 22 = .ok (.iload_n 1, 1) := by decide +kernel
theorem dX10_readText_23 : decode cX10_readText 23 = .ok (.aload_n 0, 1) := by decide +kernel
theorem dX10_readText_24 : decode cX10_readText 24 = .ok (.getfield 98, 3) := by decide +kernel
theorem dX10_readText_27 : decode cX10_readText 27 = .ok (.if_icmp .ge 41, 3) := by decide +kernel
theorem dX10_readText_30 : decode cX10_readText 30 = .ok (.aload_n 0, 1) := by decide +kernel
theorem dX10_readText_31 : decode cX10_readText 31 = .ok (.aload_n 0, 1) := by decide +kernel
theorem dX10_readText_32 : decode cX10_readText 32 = .ok (.getfield 13, 3) := by decide +kernel
theorem dX10_readText_35 : decode cX10_readText 35 = .ok (.iload_n 1, 1) := by decide +kernel
theorem dX10_readText_36 : decode cX10_readText 36 = .ok (.iaload, 1) := by decide +kernel
theorem dX10_readText_37 : decode cX10_readText 37 = .ok (.invokevirtual 101, 3) := by decide +kernel
theorem dX10_readText_40 : decode cX10_readText 40 = .ok (.istore_n 2, 1) := by decide +kernel
theorem dX10_readText_41 : decode cX10_readText 41 = .ok (.iload_n 2, 1) := by decide +kernel
theorem dX10_readText_42 : decode cX10_readText 42 = .ok (.ifCond .le 10, 3) := by decide +kernel
theorem dX10_readText_45 : decode cX10_readText 45 = .ok (.aload_n 0, 1) := by decide +kernel
theorem dX10_readText_46 : decode cX10_readText 46 = .ok (.iload_n 1, 1) := by decide +kernel
theorem dX10_readText_47 : decode cX10_readText 47 = .ok (.putfield 16, 3) := by decide +kernel
theorem dX10_readText_50 : decode cX10_readText 50 = .ok (.iload_n 2, 1) := by decide +kernel
theorem dX10_readText_51 : decode cX10_readText 51 = .ok (.ireturn, 1) := by decide +kernel
theorem dX10_readText_52 : decode cX10_readText 52 = .ok (.aload_n 0, 1) := by decide +kernel
theorem dX10_readText_53 : decode cX10_readText 53 = .ok (.aload_n 0, 1) := by decide +kernel
theorem dX10_readText_54 : decode cX10_readText 54 = .ok (.getfield 13, 3) := by decide +kernel
theorem dX10_readText_57 : decode cX10_readText 57 = .ok (.iload_n 1, 1) := by decide +kernel
theorem dX10_readText_58 : decode cX10_readText 58 = .ok (.iaload, 1) := by decide +kernel
theorem dX10_readText_59 : decode cX10_readText 59 = .ok (.invokevirtual 104, 3) := by decide +kernel
theorem dX10_readText_62 : decode cX10_readText 62 = .ok (.iinc 1 1, 3) := by decide +kernel
theorem dX10_readText_65 : decode cX10_readText 65 = .ok (.goto (-43), 3) := by decide +kernel
theorem dX10_readText_68 : decode cX10_readText 68 = .ok (.aload_n 0, 1) := by decide +kernel
theorem dX10_readText_69 : decode cX10_readText 69 = .ok (.getfield 83, 3) := by decide +kernel
theorem dX10_readText_72 : decode cX10_readText 72 = .ok (.ifCond .gt 10, 3) := by decide +kernel
theorem dX10_readText_75 : decode cX10_readText 75 = .ok (.aload_n 0, 1) := by decide +kernel
theorem dX10_readText_76 : decode cX10_readText 76 = .ok (.getfield 77, 3) := by decide +kernel
theorem dX10_readText_79 : decode cX10_readText 79 = .ok (.ifCond .ne 7, 3) := by decide +kernel
theorem dX10_readText_82 : decode cX10_readText 82 = .ok (.iconst 1, 1) := by decide +kernel
theorem dX10_readText_83 : decode cX10_readText 83 = .ok (.goto 15, 3) := by decide +kernel
theorem dX10_readText_86 : decode cX10_readText 86 = .ok (.aload_n 0, 1) := by decide +kernel
theorem dX10_readText_87 : decode cX10_readText 87 = .ok (.invokevirtual 86, 3) := by decide +kernel
theorem dX10_readText_90 : decode cX10_readText 90 = .ok (.ifCond .eq 7, 3) := by decide +kernel
theorem dX10_readText_93 : decode cX10_readText 93 = .ok (.iconst 2, 1) := by decide +kernel
theorem dX10_readText_94 : decode cX10_readText 94 = .ok (.goto 4, 3) := by decide +kernel
theorem dX10_readText_97 : decode cX10_readText 97 = .ok (.iconst 0, 1) := by decide +kernel
theorem dX10_readText_98 : decode cX10_readText 98 = .ok (.istore_n 1, 1) := by decide +kernel
theorem dX10_readText_99 : decode cX10_readText 99 = .ok (.aload_n 0, 1) := by decide +kernel
theorem dX10_readText_100 : decode cX10_readText 100 = .ok (.iload_n 1, 1) := by decide +kernel
theorem dX10_readText_101 : decode cX10_readText 101 = .ok (.ifCond .le 10, 3) := by decide +kernel
theorem dX10_readText_104 : decode cX10_readText 104 = .ok (.aload_n 0, 1) := by decide +kernel
theorem dX10_readText_105 : decode cX10_readText 105 = .ok (.getfield 98, 3) := by decide +kernel
theorem dX10_readText_108 : decode cX10_readText 108 = .ok (.goto 4, 3) := by decide +kernel
theorem dX10_readText_111 : decode cX10_readText 111 = .ok (.iconst (-1), 1) := by decide +kernel
theorem dX10_readText_112 : decode cX10_readText 112 = .ok (.putfield 16, 3) := by decide +kernel
theorem dX10_readText_115 : decode cX10_readText 115 = .ok (.iload_n 1, 1) := by decide +kernel
theorem dX10_readText_116 : decode cX10_readText 116 = .ok (.ireturn, 1) := by decide +kernel
theorem dX10_layPicture_0 : decode cX10_layPicture 0 = .ok (.iconst 0, 1) := by decide +kernel
theorem dX10_layPicture_1 : decode cX10_layPicture 1 = .ok (.istore_n 1, 1) := by decide +kernel
theorem dX10_layPicture_2 : decode cX10_layPicture 2 = .ok (.iconst 0, 1) := by decide +kernel
theorem dX10_layPicture_3 : decode cX10_layPicture 3 = .ok (.istore_n 2, 1) := by decide +kernel
theorem dX10_layPicture_4 : decode cX10_layPicture 4 = .ok (.iconst 0, 1) := by decide +kernel
theorem dX10_layPicture_5 : decode cX10_layPicture 5 = .ok (.istore_n 3, 1) := by decide +kernel
theorem dX10_layPicture_6 : decode cX10_layPicture 6 = .ok (.iload_n 3, 1) := by decide +kernel
theorem dX10_layPicture_7 : decode cX10_layPicture 7 = .ok (.aload_n 0, 1) := by decide +kernel
theorem dX10_layPicture_8 : decode cX10_layPicture 8 = .ok (.getfield 98, 3) := by decide +kernel
theorem dX10_layPicture_11 : decode cX10_layPicture 11 = .ok (.if_icmp .ge 99, 3) := by decide +kernel
theorem dX10_layPicture_14 : decode cX10_layPicture 14 = .ok (.aload_n 0, 1) := by decide +kernel
theorem dX10_layPicture_15 : decode cX10_layPicture 15 = .ok (.getfield 13, 3) := by decide +kernel
theorem dX10_layPicture_18 : decode cX10_layPicture 18 = .ok (.iload_n 3, 1) := by decide +kernel
theorem dX10_layPicture_19 : decode cX10_layPicture 19 = .ok (.iaload, 1) := by decide +kernel
theorem dX10_layPicture_20 : decode cX10_layPicture 20 = .ok (.bipush 47, 2) := by decide +kernel
theorem dX10_layPicture_22 : decode cX10_layPicture 22 = .ok (.if_icmp .ne 11, 3) := by decide +kernel
theorem dX10_layPicture_25 : decode cX10_layPicture 25 = .ok (.iconst 0, 1) := by decide +kernel
theorem dX10_layPicture_26 : decode cX10_layPicture 26 = .ok (.istore_n 1, 1) := by decide +kernel
theorem dX10_layPicture_27 : decode cX10_layPicture 27 = .ok (.iinc 2 1, 3) := by decide +kernel
theorem dX10_layPicture_30 : decode cX10_layPicture 30 = .ok (.goto 58, 3) := by decide +kernel
theorem dX10_layPicture_33 : decode cX10_layPicture 33 = .ok (.aload_n 0, 1) := by decide +kernel
theorem dX10_layPicture_34 : decode cX10_layPicture 34 = .ok (.getfield 7, 3) := by decide +kernel
theorem dX10_layPicture_37 : decode cX10_layPicture 37 = .ok (.aload_n 0, 1) := by decide +kernel
theorem dX10_layPicture_38 : decode cX10_layPicture 38 = .ok (.iload_n 1, 1) := by decide +kernel
theorem dX10_layPicture_39 : decode cX10_layPicture 39 = .ok (.iload_n 2, 1) := by decide +kernel
theorem dX10_layPicture_40 : decode cX10_layPicture 40 = .ok (.invokevirtual 54, 3) := by decide +kernel
theorem dX10_layPicture_43 : decode cX10_layPicture 43 = .ok (.aload_n 0, 1) := by decide +kernel
theorem dX10_layPicture_44 : decode cX10_layPicture 44 = .ok (.getfield 13, 3) := by decide +kernel
theorem dX10_layPicture_47 : decode cX10_layPicture 47 = .ok (.iload_n 3, 1) := by decide +kernel
theorem dX10_layPicture_48 : decode cX10_layPicture 48 = .ok (.iaload, 1) := by decide +kernel
theorem dX10_layPicture_49 : decode cX10_layPicture 49 = .ok (.bipush 45, 2) := by decide +kernel
theorem dX10_layPicture_51 : decode cX10_layPicture 51 = .ok (.if_icmp .ne 9, 3) := by decide +kernel
theorem dX10_layPicture_54 : decode cX10_layPicture 54 = .ok (.sipush 256, 3) := by decide +kernel
theorem dX10_layPicture_57 : decode cX10_layPicture 57 = .ok (.goto 27, 3) := by decide +kernel
theorem dX10_layPicture_60 : decode cX10_layPicture 60 = .ok (.bipush 16, 2) := by decide +kernel
theorem dX10_layPicture_62 : decode cX10_layPicture 62 = .ok (.aload_n 0, 1) := by decide +kernel
theorem dX10_layPicture_63 : decode cX10_layPicture 63 = .ok (.getfield 13, 3) := by decide +kernel
theorem dX10_layPicture_66 : decode cX10_layPicture 66 = .ok (.iload_n 3, 1) := by decide +kernel
theorem dX10_layPicture_67 : decode cX10_layPicture 67 = .ok (.iaload, 1) := by decide +kernel
theorem dX10_layPicture_68 : decode cX10_layPicture 68 = .ok (.invokestatic 94, 3) := by decide +kernel
theorem dX10_layPicture_71 : decode cX10_layPicture 71 = .ok (.imul, 1) := by decide +kernel
theorem dX10_layPicture_72 : decode cX10_layPicture 72 = .ok (.aload_n 0, 1) := by decide +kernel
theorem dX10_layPicture_73 : decode cX10_layPicture 73 = .ok (.getfield 13, 3) := by decide +kernel
theorem dX10_layPicture_76 : decode cX10_layPicture 76 = .ok (.iload_n 3, 1) := by decide +kernel
theorem dX10_layPicture_77 : decode cX10_layPicture 77 = .ok (.iconst 1, 1) := by decide +kernel
theorem dX10_layPicture_78 : decode cX10_layPicture 78 = .ok (.iadd, 1) := by decide +kernel
theorem dX10_layPicture_79 : decode cX10_layPicture 79 = .ok (.iaload, 1) := by decide +kernel
theorem dX10_layPicture_80 : decode cX10_layPicture 80 = .ok (.invokestatic 94, 3) := by decide +kernel
theorem dX10_layPicture_83 : decode cX10_layPicture 83 = .ok (.iadd, 1) := by decide +kernel
theorem dX10_layPicture_84 : decode cX10_layPicture 84 = .ok (.iastore, 1) := by decide +kernel
theorem dX10_layPicture_85 : decode cX10_layPicture 85 = .ok (.iinc 1 1, 3) := by decide +kernel
theorem dX10_layPicture_88 : decode cX10_layPicture 88 = .ok (.iload_n 3, 1) := by decide +kernel
theorem dX10_layPicture_89 : decode cX10_layPicture 89 = .ok (.aload_n 0, 1) := by decide +kernel
theorem dX10_layPicture_90 : decode cX10_layPicture 90 = .ok (.getfield 13, 3) := by decide +kernel
theorem dX10_layPicture_93 : decode cX10_layPicture 93 = .ok (.iload_n 3, 1) := by decide +kernel
theorem dX10_layPicture_94 : decode cX10_layPicture 94 = .ok (.iaload, 1) := by decide +kernel
theorem dX10_layPicture_95 : decode cX10_layPicture 95 = .ok (.bipush 47, 2) := by decide +kernel
theorem dX10_layPicture_97 : decode cX10_layPicture 97 = .ok (.if_icmp .ne 7, 3) := by decide +kernel
theorem dX10_layPicture_100 : decode cX10_layPicture 100 = .ok (.iconst 1, 1) := by decide +kernel
theorem dX10_layPicture_101 : decode cX10_layPicture 101 = .ok (.goto 4, 3) := by decide +kernel
theorem dX10_layPicture_104 : decode cX10_layPicture 104 = .ok (.iconst 2, 1) := by decide +kernel
theorem dX10_layPicture_105 : decode cX10_layPicture 105 = .ok (.iadd, 1) := by decide +kernel
theorem dX10_layPicture_106 : decode cX10_layPicture 106 = .ok (.istore_n 3, 1) := by decide +kernel
theorem dX10_layPicture_107 : decode cX10_layPicture 107 = .ok (.goto (-101), 3) := by decide +kernel
theorem dX10_layPicture_110 : decode cX10_layPicture 110 = .ok (.aload_n 0, 1) := by decide +kernel
theorem dX10_layPicture_111 : decode cX10_layPicture 111 = .ok (.getfield 7, 3) := by decide +kernel
theorem dX10_layPicture_114 : decode cX10_layPicture 114 = .ok (.iconst 0, 1) := by decide +kernel
theorem dX10_layPicture_115 : decode cX10_layPicture 115 = .ok (.iload_n 1, 1) := by decide +kernel
theorem dX10_layPicture_116 : decode cX10_layPicture 116 = .ok (.iastore, 1) := by decide +kernel
theorem dX10_layPicture_117 : decode cX10_layPicture 117 = .ok (.aload_n 0, 1) := by decide +kernel
theorem dX10_layPicture_118 : decode cX10_layPicture 118 = .ok (.getfield 7, 3) := by decide +kernel
theorem dX10_layPicture_121 : decode cX10_layPicture 121 = .ok (.iconst 1, 1) := by decide +kernel
theorem dX10_layPicture_122 : decode cX10_layPicture 122 = .ok (.iload_n 2, 1) := by decide +kernel
theorem dX10_layPicture_123 : decode cX10_layPicture 123 = .ok (.iconst 1, 1) := by decide +kernel
theorem dX10_layPicture_124 : decode cX10_layPicture 124 = .ok (.iadd, 1) := by decide +kernel
theorem dX10_layPicture_125 : decode cX10_layPicture 125 = .ok (.iastore, 1) := by decide +kernel
theorem dX10_layPicture_126 : decode cX10_layPicture 126 = .ok (.return_, 1) := by decide +kernel
theorem dX10_feed_0 : decode cX10_feed 0 = .ok (.iload_n 1, 1) := by decide +kernel
theorem dX10_feed_1 : decode cX10_feed 1 = .ok (.i2l, 1) := by decide +kernel
theorem dX10_feed_2 : decode cX10_feed 2 = .ok (.lconst 0, 1) := by decide +kernel
theorem dX10_feed_3 : decode cX10_feed 3 = .ok (.ldc2_w 108, 3) := by decide +kernel
theorem dX10_feed_6 : decode cX10_feed 6 = .ok (.invokestatic 58, 3) := by decide +kernel
theorem dX10_feed_9 : decode cX10_feed 9 = .ok (.ifCond .ne 6, 3) := by decide +kernel
theorem dX10_feed_12 : decode cX10_feed 12 = .ok (.ldc 110, 2) := by decide +kernel
theorem dX10_feed_14 : decode cX10_feed 14 = .ok (.ireturn, 1) := by decide +kernel
theorem dX10_feed_15 : decode cX10_feed 15 = .ok (.aload_n 0, 1) := by decide +kernel
theorem dX10_feed_16 : decode cX10_feed 16 = .ok (.getfield 98, 3) := by decide +kernel
theorem dX10_feed_19 : decode cX10_feed 19 = .ok (.sipush 180, 3) := by decide +kernel
theorem dX10_feed_22 : decode cX10_feed 22 = .ok (.if_icmp .ne 6, 3) := by decide +kernel
theorem dX10_feed_25 : decode cX10_feed 25 = .ok (.ldc 111, 2) := by decide +kernel
theorem dX10_feed_27 : decode cX10_feed 27 = .ok (.ireturn, 1) := by decide +kernel
theorem dX10_feed_28 : decode cX10_feed 28 = .ok (.aload_n 0, 1) := by decide +kernel
theorem dX10_feed_29 : decode cX10_feed 29 = .ok (.getfield 13, 3) := by decide +kernel
theorem dX10_feed_32 : decode cX10_feed 32 = .ok (.aload_n 0, 1) := by decide +kernel
theorem dX10_feed_33 : decode cX10_feed 33 = .ok (.getfield 98, 3) := by decide +kernel
theorem dX10_feed_36 : decode cX10_feed 36 = .ok (.iload_n 1, 1) := by decide +kernel
theorem dX10_feed_37 : decode cX10_feed 37 = .ok (.iastore, 1) := by decide +kernel
theorem dX10_feed_38 : decode cX10_feed 38 = .ok (.aload_n 0, 1) := by decide +kernel
theorem dX10_feed_39 : decode cX10_feed 39 = .ok (.dup, 1) := by decide +kernel
theorem dX10_feed_40 : decode cX10_feed 40 = .ok (.getfield 98, 3) := by decide +kernel
theorem dX10_feed_43 : decode cX10_feed 43 = .ok (.iconst 1, 1) := by decide +kernel
theorem dX10_feed_44 : decode cX10_feed 44 = .ok (.iadd, 1) := by decide +kernel
theorem dX10_feed_45 : decode cX10_feed 45 = .ok (.putfield 98, 3) := by decide +kernel
theorem dX10_feed_48 : decode cX10_feed 48 = .ok (.aload_n 0, 1) := by decide +kernel
theorem dX10_feed_49 : decode cX10_feed 49 = .ok (.getfield 98, 3) := by decide +kernel
theorem dX10_feed_52 : decode cX10_feed 52 = .ok (.ireturn, 1) := by decide +kernel
theorem dX10_picture_0 : decode cX10_picture 0 = .ok (.aload_n 0, 1) := by decide +kernel
theorem dX10_picture_1 : decode cX10_picture 1 = .ok (.invokevirtual 112, 3) := by decide +kernel
theorem dX10_picture_4 : decode cX10_picture 4 = .ok (.istore_n 1, 1) := by decide +kernel
theorem dX10_picture_5 : decode cX10_picture 5 = .ok (.iload_n 1, 1) := by decide +kernel
theorem dX10_picture_6 : decode cX10_picture 6 = .ok (.ifCond .ne 11, 3) := by decide +kernel
theorem dX10_picture_9 : decode cX10_picture 9 = .ok (.aload_n 0, 1) := by decide +kernel
theorem dX10_picture_10 : decode cX10_picture 10 = .ok (.invokevirtual 115, 3) := by decide +kernel
theorem dX10_picture_13 : decode cX10_picture 13 = .ok (.aload_n 0, 1) := by decide +kernel
theorem dX10_picture_14 : decode cX10_picture 14 = .ok (.invokevirtual 118, 3) := by decide +kernel
theorem dX10_picture_17 : decode cX10_picture 17 = .ok (.aload_n 0, 1) := by decide +kernel
theorem dX10_picture_18 : decode cX10_picture 18 = .ok (.iconst 0, 1) := by decide +kernel
theorem dX10_picture_19 : decode cX10_picture 19 = .ok (.putfield 98, 3) := by decide +kernel
theorem dX10_picture_22 : decode cX10_picture 22 = .ok (.iload_n 1, 1) := by decide +kernel
theorem dX10_picture_23 : decode cX10_picture 23 = .ok (.ifCond .le 10, 3) := by decide +kernel
theorem dX10_picture_26 : decode cX10_picture 26 = .ok (.bipush (-10), 2) := by decide +kernel
theorem dX10_picture_28 : decode cX10_picture 28 = .ok (.iload_n 1, 1) := by decide +kernel
theorem dX10_picture_29 : decode cX10_picture 29 = .ok (.isub, 1) := by decide +kernel
theorem dX10_picture_30 : decode cX10_picture 30 = .ok (.goto 16, 3) := by decide +kernel
theorem dX10_picture_33 : decode cX10_picture 33 = .ok (.aload_n 0, 1) := by decide +kernel
theorem dX10_picture_34 : decode cX10_picture 34 = .ok (.getfield 7, 3) := by decide +kernel
theorem dX10_picture_37 : decode cX10_picture 37 = .ok (.iconst 0, 1) := by decide +kernel
theorem dX10_picture_38 : decode cX10_picture 38 = .ok (.iaload, 1) := by decide +kernel
theorem dX10_picture_39 : decode cX10_picture 39 = .ok (.aload_n 0, 1) := by decide +kernel
theorem dX10_picture_40 : decode cX10_picture 40 = .ok (.getfield 7, 3) := by decide +kernel
theorem dX10_picture_43 : decode cX10_picture 43 = .ok (.iconst 1, 1) := by decide +kernel
theorem dX10_picture_44 : decode cX10_picture 44 = .ok (.iaload, 1) := by decide +kernel
theorem dX10_picture_45 : decode cX10_picture 45 = .ok (.imul, 1) := by decide +kernel
theorem dX10_picture_46 : decode cX10_picture 46 = .ok (.ireturn, 1) := by decide +kernel
theorem dX10_fault_0 : decode cX10_fault 0 = .ok (.aload_n 0, 1) := by decide +kernel
theorem dX10_fault_1 : decode cX10_fault 1 = .ok (.getfield 16, 3) := by decide +kernel
theorem dX10_fault_4 : decode cX10_fault 4 = .ok (.ireturn, 1) := by decide +kernel
theorem dX10_part_0 : decode cX10_part 0 = .ok (.aload_n 0, 1) := by decide +kernel
theorem dX10_part_1 : decode cX10_part 1 = .ok (.getfield 20, 3) := by decide +kernel
theorem dX10_part_4 : decode cX10_part 4 = .ok (.iconst 1, 1) := by decide +kernel
theorem dX10_part_5 : decode cX10_part 5 = .ok (.iconst 5, 1) := by decide +kernel
theorem dX10_part_6 : decode cX10_part 6 = .ok (.iload_n 1, 1) := by decide +kernel
theorem dX10_part_7 : decode cX10_part 7 = .ok (.imul, 1) := by decide +kernel
theorem dX10_part_8 : decode cX10_part 8 = .ok (.iadd, 1) := by decide +kernel
theorem dX10_part_9 : decode cX10_part 9 = .ok (.iload_n 2, 1) := by decide +kernel
theorem dX10_part_10 : decode cX10_part 10 = .ok (.iadd, 1) := by decide +kernel
theorem dX10_part_11 : decode cX10_part 11 = .ok (.iaload, 1) := by decide +kernel
theorem dX10_part_12 : decode cX10_part 12 = .ok (.ireturn, 1) := by decide +kernel
theorem dX10_count_0 : decode cX10_count 0 = .ok (.aload_n 0, 1) := by decide +kernel
theorem dX10_count_1 : decode cX10_count 1 = .ok (.getfield 121, 3) := by decide +kernel
theorem dX10_count_4 : decode cX10_count 4 = .ok (.istore_n 2, 1) := by decide +kernel
theorem dX10_count_5 : decode cX10_count 5 = .ok (.iload_n 2, 1) := by decide +kernel
theorem dX10_count_6 : decode cX10_count 6 = .ok (.ifCond .le 35, 3) := by decide +kernel
theorem dX10_count_9 : decode cX10_count 9 = .ok (.aload_n 0, 1) := by decide +kernel
theorem dX10_count_10 : decode cX10_count 10 = .ok (.getfield 41, 3) := by decide +kernel
theorem dX10_count_13 : decode cX10_count 13 = .ok (.iload_n 2, 1) := by decide +kernel
theorem dX10_count_14 : decode cX10_count 14 = .ok (.iconst 1, 1) := by decide +kernel
theorem dX10_count_15 : decode cX10_count 15 = .ok (.isub, 1) := by decide +kernel
theorem dX10_count_16 : decode cX10_count 16 = .ok (.iaload, 1) := by decide +kernel
theorem dX10_count_17 : decode cX10_count 17 = .ok (.iload_n 1, 1) := by decide +kernel
theorem dX10_count_18 : decode cX10_count 18 = .ok (.if_icmp .le 23, 3) := by decide +kernel
theorem dX10_count_21 : decode cX10_count 21 = .ok (.aload_n 0, 1) := by decide +kernel
theorem dX10_count_22 : decode cX10_count 22 = .ok (.getfield 41, 3) := by decide +kernel
theorem dX10_count_25 : decode cX10_count 25 = .ok (.iload_n 2, 1) := by decide +kernel
theorem dX10_count_26 : decode cX10_count 26 = .ok (.aload_n 0, 1) := by decide +kernel
theorem dX10_count_27 : decode cX10_count 27 = .ok (.getfield 41, 3) := by decide +kernel
theorem dX10_count_30 : decode cX10_count 30 = .ok (.iload_n 2, 1) := by decide +kernel
theorem dX10_count_31 : decode cX10_count 31 = .ok (.iconst 1, 1) := by decide +kernel
theorem dX10_count_32 : decode cX10_count 32 = .ok (.isub, 1) := by decide +kernel
theorem dX10_count_33 : decode cX10_count 33 = .ok (.iaload, 1) := by decide +kernel
theorem dX10_count_34 : decode cX10_count 34 = .ok (.iastore, 1) := by decide +kernel
theorem dX10_count_35 : decode cX10_count 35 = .ok (.iinc 2 (-1), 3) := by decide +kernel
theorem dX10_count_38 : decode cX10_count 38 = .ok (.goto (-33), 3) := by decide +kernel
theorem dX10_count_41 : decode cX10_count 41 = .ok (.aload_n 0, 1) := by decide +kernel
theorem dX10_count_42 : decode cX10_count 42 = .ok (.getfield 41, 3) := by decide +kernel
theorem dX10_count_45 : decode cX10_count 45 = .ok (.iload_n 2, 1) := by decide +kernel
theorem dX10_count_46 : decode cX10_count 46 = .ok (.iload_n 1, 1) := by decide +kernel
theorem dX10_count_47 : decode cX10_count 47 = .ok (.iastore, 1) := by decide +kernel
theorem dX10_count_48 : decode cX10_count 48 = .ok (.aload_n 0, 1) := by decide +kernel
theorem dX10_count_49 : decode cX10_count 49 = .ok (.dup, 1) := by decide +kernel
theorem dX10_count_50 : decode cX10_count 50 = .ok (.getfield 121, 3) := by decide +kernel
theorem dX10_count_53 : decode cX10_count 53 = .ok (.iconst 1, 1) := by decide +kernel
theorem dX10_count_54 : decode cX10_count 54 = .ok (.iadd, 1) := by decide +kernel
theorem dX10_count_55 : decode cX10_count 55 = .ok (.putfield 121, 3) := by decide +kernel
theorem dX10_count_58 : decode cX10_count 58 = .ok (.return_, 1) := by decide +kernel
theorem dX10_leftOver_0 : decode cX10_leftOver 0 = .ok (.iload_n 0, 1) := by decide +kernel
theorem dX10_leftOver_1 : decode cX10_leftOver 1 = .ok (.iload_n 1, 1) := by decide +kernel
theorem dX10_leftOver_2 : decode cX10_leftOver 2 = .ok (.irem, 1) := by decide +kernel
theorem dX10_leftOver_3 : decode cX10_leftOver 3 = .ok (.iload_n 1, 1) := by decide +kernel
theorem dX10_leftOver_4 : decode cX10_leftOver 4 = .ok (.iadd, 1) := by decide +kernel
theorem dX10_leftOver_5 : decode cX10_leftOver 5 = .ok (.iload_n 1, 1) := by decide +kernel
theorem dX10_leftOver_6 : decode cX10_leftOver 6 = .ok (.irem, 1) := by decide +kernel
theorem dX10_leftOver_7 : decode cX10_leftOver 7 = .ok (.ireturn, 1) := by decide +kernel
theorem dX10_standIn_0 : decode cX10_standIn 0 = .ok (.iload_n 0, 1) := by decide +kernel
theorem dX10_standIn_1 : decode cX10_standIn 1 = .ok (.iconst 1, 1) := by decide +kernel
theorem dX10_standIn_2 : decode cX10_standIn 2 = .ok (.if_icmp .ne 24, 3) := by decide +kernel
theorem dX10_standIn_5 : decode cX10_standIn 5 = .ok (.iload_n 1, 1) := by decide +kernel
theorem dX10_standIn_6 : decode cX10_standIn 6 = .ok (.ifCond .ge 7, 3) := by decide +kernel
theorem dX10_standIn_9 : decode cX10_standIn 9 = .ok (.iconst 0, 1) := by decide +kernel
theorem dX10_standIn_10 : decode cX10_standIn 10 = .ok (.goto 15, 3) := by decide +kernel
theorem dX10_standIn_13 : decode cX10_standIn 13 = .ok (.iload_n 1, 1) := by decide +kernel
theorem dX10_standIn_14 : decode cX10_standIn 14 = .ok (.iload_n 2, 1) := by decide +kernel
theorem dX10_standIn_15 : decode cX10_standIn 15 = .ok (.if_icmp .lt 9, 3) := by decide +kernel
theorem dX10_standIn_18 : decode cX10_standIn 18 = .ok (.iload_n 2, 1) := by decide +kernel
theorem dX10_standIn_19 : decode cX10_standIn 19 = .ok (.iconst 1, 1) := by decide +kernel
theorem dX10_standIn_20 : decode cX10_standIn 20 = .ok (.isub, 1) := by decide +kernel
theorem dX10_standIn_21 : decode cX10_standIn 21 = .ok (.goto 4, 3) := by decide +kernel
theorem dX10_standIn_24 : decode cX10_standIn 24 = .ok (.iload_n 1, 1) := by decide +kernel
theorem dX10_standIn_25 : decode cX10_standIn 25 = .ok (.ireturn, 1) := by decide +kernel
theorem dX10_standIn_26 : decode cX10_standIn 26 = .ok (.iload_n 0, 1) := by decide +kernel
theorem dX10_standIn_27 : decode cX10_standIn 27 = .ok (.iconst 3, 1) := by decide +kernel
theorem dX10_standIn_28 : decode cX10_standIn 28 = .ok (.if_icmp .ne 9, 3) := by decide +kernel
theorem dX10_standIn_31 : decode cX10_standIn 31 = .ok (.iload_n 1, 1) := by decide +kernel
theorem dX10_standIn_32 : decode cX10_standIn 32 = .ok (.iload_n 2, 1) := by decide +kernel
theorem dX10_standIn_33 : decode cX10_standIn 33 = .ok (.invokestatic 124, 3) := by decide +kernel
theorem dX10_standIn_36 : decode cX10_standIn 36 = .ok (.ireturn, 1) := by decide +kernel
theorem dX10_standIn_37 : decode cX10_standIn 37 = .ok (.iload_n 1, 1) := by decide +kernel
theorem dX10_standIn_38 : decode cX10_standIn 38 = .ok (.iconst 2, 1) := by decide +kernel
theorem dX10_standIn_39 : decode cX10_standIn 39 = .ok (.iload_n 2, 1) := by decide +kernel
theorem dX10_standIn_40 : decode cX10_standIn 40 = .ok (.imul, 1) := by decide +kernel
theorem dX10_standIn_41 : decode cX10_standIn 41 = .ok (.invokestatic 124, 3) := by decide +kernel
theorem dX10_standIn_44 : decode cX10_standIn 44 = .ok (.istore_n 3, 1) := by decide +kernel
theorem dX10_standIn_45 : decode cX10_standIn 45 = .ok (.iload_n 3, 1) := by decide +kernel
theorem dX10_standIn_46 : decode cX10_standIn 46 = .ok (.iload_n 2, 1) := by decide +kernel
theorem dX10_standIn_47 : decode cX10_standIn 47 = .ok (.if_icmp .ge 7, 3) := by decide +kernel
theorem dX10_standIn_50 : decode cX10_standIn 50 = .ok (.iload_n 3, 1) := by decide +kernel
theorem dX10_standIn_51 : decode cX10_standIn 51 = .ok (.goto 10, 3) := by decide +kernel
theorem dX10_standIn_54 : decode cX10_standIn 54 = .ok (.iconst 2, 1) := by decide +kernel
theorem dX10_standIn_55 : decode cX10_standIn 55 = .ok (.iload_n 2, 1) := by decide +kernel
theorem dX10_standIn_56 : decode cX10_standIn 56 = .ok (.imul, 1) := by decide +kernel
theorem dX10_standIn_57 : decode cX10_standIn 57 = .ok (.iconst 1, 1) := by decide +kernel
theorem dX10_standIn_58 : decode cX10_standIn 58 = .ok (.isub, 1) := by decide +kernel
theorem dX10_standIn_59 : decode cX10_standIn 59 = .ok (.iload_n 3, 1) := by decide +kernel
theorem dX10_standIn_60 : decode cX10_standIn 60 = .ok (.isub, 1) := by decide +kernel
theorem dX10_standIn_61 : decode cX10_standIn 61 = .ok (.ireturn, 1) := by decide +kernel
theorem dX10_countOut_0 : decode cX10_countOut 0 = .ok (.iload_n 1, 1) := by decide +kernel
theorem dX10_countOut_1 : decode cX10_countOut 1 = .ok (.iconst 4, 1) := by decide +kernel
theorem dX10_countOut_2 : decode cX10_countOut 2 = .ok (.if_icmp .ne 14, 3) := by decide +kernel
theorem dX10_countOut_5 : decode cX10_countOut 5 = .ok (.aload_n 0, 1) := by decide +kernel
theorem dX10_countOut_6 : decode cX10_countOut 6 = .ok (.aload_n 0, 1) := by decide +kernel
theorem dX10_countOut_7 : decode cX10_countOut 7 = .ok (.getfield 127, 3) := by decide +kernel
theorem dX10_countOut_10 : decode cX10_countOut 10 = .ok (.invokevirtual 130, 3) := by decide +kernel
theorem dX10_countOut_13 : decode cX10_countOut 13 = .ok (.goto 56, 3) := by decide +kernel
theorem dX10_countOut_16 : decode cX10_countOut 16 = .ok (.iload_n 1, 1) := by decide +kernel
theorem dX10_countOut_17 : decode cX10_countOut 17 = .ok (.ifCond .le 52, 3) := by decide +kernel
theorem dX10_countOut_20 : decode cX10_countOut 20 = .ok (.iload_n 1, 1) := by decide +kernel
theorem dX10_countOut_21 : decode cX10_countOut 21 = .ok (.iload_n 2, 1) := by decide +kernel
theorem dX10_countOut_22 : decode cX10_countOut 22 = .ok (.aload_n 0, 1) := by decide +kernel
theorem dX10_countOut_23 : decode cX10_countOut 23 = .ok (.getfield 7, 3) := by decide +kernel
theorem dX10_countOut_26 : decode cX10_countOut 26 = .ok (.iconst 0, 1) := by decide +kernel
theorem dX10_countOut_27 : decode cX10_countOut 27 = .ok (.iaload, 1) := by decide +kernel
theorem dX10_countOut_28 : decode cX10_countOut 28 = .ok (.invokestatic 133, 3) := by decide +kernel
theorem dX10_countOut_31 : decode cX10_countOut 31 = .ok (.istore 4, 2) := by decide +kernel
theorem dX10_countOut_33 : decode cX10_countOut 33 = .ok (.iload_n 1, 1) := by decide +kernel
theorem dX10_countOut_34 : decode cX10_countOut 34 = .ok (.iload_n 3, 1) := by decide +kernel
theorem dX10_countOut_35 : decode cX10_countOut 35 = .ok (.aload_n 0, 1) := by decide +kernel
theorem dX10_countOut_36 : decode cX10_countOut 36 = .ok (.getfield 7, 3) := by decide +kernel
theorem dX10_countOut_39 : decode cX10_countOut 39 = .ok (.iconst 1, 1) := by decide +kernel
theorem dX10_countOut_40 : decode cX10_countOut 40 = .ok (.iaload, 1) := by decide +kernel
theorem dX10_countOut_41 : decode cX10_countOut 41 = .ok (.invokestatic 133, 3) := by decide +kernel
theorem dX10_countOut_44 : decode cX10_countOut 44 = .ok (.istore 5, 2) := by decide +kernel
theorem dX10_countOut_46 : decode cX10_countOut 46 = .ok (.aload_n 0, 1) := by decide +kernel
theorem dX10_countOut_47 : decode cX10_countOut 47 = .ok (.iload 4, 2) := by decide +kernel
theorem dX10_countOut_49 : decode cX10_countOut 49 = .ok (.iload 5, 2) := by decide +kernel
theorem dX10_countOut_51 : decode cX10_countOut 51 = .ok (.invokevirtual 62, 3) := by decide +kernel
theorem dX10_countOut_54 : decode cX10_countOut 54 = .ok (.ifCond .ne 15, 3) := by decide +kernel
theorem dX10_countOut_57 : decode cX10_countOut 57 = .ok (.aload_n 0, 1) := by decide +kernel
theorem dX10_countOut_58 : decode cX10_countOut 58 = .ok (.aload_n 0, 1) := by decide +kernel
theorem dX10_countOut_59 : decode cX10_countOut 59 = .ok (.iload 4, 2) := by decide +kernel
theorem dX10_countOut_61 : decode cX10_countOut 61 = .ok (.iload 5, 2) := by decide +kernel
theorem dX10_countOut_63 : decode cX10_countOut 63 = .ok (.invokevirtual 137, 3) := by decide +kernel
theorem dX10_countOut_66 : decode cX10_countOut 66 = .ok (.invokevirtual 130, 3) := by decide +kernel
theorem dX10_countOut_69 : decode cX10_countOut 69 = .ok (.return_, 1) := by decide +kernel
theorem dX10_countAt_0 : decode cX10_countAt 0 = .ok (.aload_n 0, 1) := by decide +kernel
theorem dX10_countAt_1 : decode cX10_countAt 1 = .ok (.iload_n 2, 1) := by decide +kernel
theorem dX10_countAt_2 : decode cX10_countAt 2 = .ok (.iload_n 3, 1) := by decide +kernel
theorem dX10_countAt_3 : decode cX10_countAt 3 = .ok (.invokevirtual 140, 3) := by decide +kernel
theorem dX10_countAt_6 : decode cX10_countAt 6 = .ok (.ifCond .ne 18, 3) := by decide +kernel
theorem dX10_countAt_9 : decode cX10_countAt 9 = .ok (.aload_n 0, 1) := by decide +kernel
theorem dX10_countAt_10 : decode cX10_countAt 10 = .ok (.aload_n 0, 1) := by decide +kernel
theorem dX10_countAt_11 : decode cX10_countAt 11 = .ok (.iload_n 1, 1) := by decide +kernel
theorem dX10_countAt_12 : decode cX10_countAt 12 = .ok (.iconst 3, 1) := by decide +kernel
theorem dX10_countAt_13 : decode cX10_countAt 13 = .ok (.invokevirtual 143, 3) := by decide +kernel
theorem dX10_countAt_16 : decode cX10_countAt 16 = .ok (.iload_n 2, 1) := by decide +kernel
theorem dX10_countAt_17 : decode cX10_countAt 17 = .ok (.iload_n 3, 1) := by decide +kernel
theorem dX10_countAt_18 : decode cX10_countAt 18 = .ok (.invokevirtual 146, 3) := by decide +kernel
theorem dX10_countAt_21 : decode cX10_countAt 21 = .ok (.goto 55, 3) := by decide +kernel
theorem dX10_countAt_24 : decode cX10_countAt 24 = .ok (.aload_n 0, 1) := by decide +kernel
theorem dX10_countAt_25 : decode cX10_countAt 25 = .ok (.iload_n 2, 1) := by decide +kernel
theorem dX10_countAt_26 : decode cX10_countAt 26 = .ok (.iload_n 3, 1) := by decide +kernel
theorem dX10_countAt_27 : decode cX10_countAt 27 = .ok (.invokevirtual 62, 3) := by decide +kernel
theorem dX10_countAt_30 : decode cX10_countAt 30 = .ok (.ifCond .ne 46, 3) := by decide +kernel
theorem dX10_countAt_33 : decode cX10_countAt 33 = .ok (.iload 4, 2) := by decide +kernel
theorem dX10_countAt_35 : decode cX10_countAt 35 = .ok (.ifCond .eq 12, 3) := by decide +kernel
theorem dX10_countAt_38 : decode cX10_countAt 38 = .ok (.aload_n 0, 1) := by decide +kernel
theorem dX10_countAt_39 : decode cX10_countAt 39 = .ok (.iload_n 1, 1) := by decide +kernel
theorem dX10_countAt_40 : decode cX10_countAt 40 = .ok (.iconst 4, 1) := by decide +kernel
theorem dX10_countAt_41 : decode cX10_countAt 41 = .ok (.invokevirtual 143, 3) := by decide +kernel
theorem dX10_countAt_44 : decode cX10_countAt 44 = .ok (.goto 4, 3) := by decide +kernel
theorem dX10_countAt_47 : decode cX10_countAt 47 = .ok (.iconst 1, 1) := by decide +kernel
theorem dX10_countAt_48 : decode cX10_countAt 48 = .ok (.istore 5, 2) := by decide +kernel
theorem dX10_countAt_50 : decode cX10_countAt 50 = .ok (.iconst 0, 1) := by decide +kernel
theorem dX10_countAt_51 : decode cX10_countAt 51 = .ok (.istore 6, 2) := by decide +kernel
theorem dX10_countAt_53 : decode cX10_countAt 53 = .ok (.iload 6, 2) := by decide +kernel
theorem dX10_countAt_55 : decode cX10_countAt 55 = .ok (.iload 5, 2) := by decide +kernel
theorem dX10_countAt_57 : decode cX10_countAt 57 = .ok (.if_icmp .ge 19, 3) := by decide +kernel
theorem dX10_countAt_60 : decode cX10_countAt 60 = .ok (.aload_n 0, 1) := by decide +kernel
theorem dX10_countAt_61 : decode cX10_countAt 61 = .ok (.aload_n 0, 1) := by decide +kernel
theorem dX10_countAt_62 : decode cX10_countAt 62 = .ok (.iload_n 2, 1) := by decide +kernel
theorem dX10_countAt_63 : decode cX10_countAt 63 = .ok (.iload_n 3, 1) := by decide +kernel
theorem dX10_countAt_64 : decode cX10_countAt 64 = .ok (.invokevirtual 137, 3) := by decide +kernel
theorem dX10_countAt_67 : decode cX10_countAt 67 = .ok (.invokevirtual 130, 3) := by decide +kernel
theorem dX10_countAt_70 : decode cX10_countAt 70 = .ok (.iinc 6 1, 3) := by decide +kernel
theorem dX10_countAt_73 : decode cX10_countAt 73 = .ok (.goto (-20), 3) := by decide +kernel
theorem dX10_countAt_76 : decode cX10_countAt 76 = .ok (.return_, 1) := by decide +kernel
theorem dX10_layWindow_0 : decode cX10_layWindow 0 = .ok (.aload_n 0, 1) := by decide +kernel
theorem dX10_layWindow_1 : decode cX10_layWindow 1 = .ok (.iconst 0, 1) := by decide +kernel
theorem dX10_layWindow_2 : decode cX10_layWindow 2 = .ok (.putfield 121, 3) := by decide +kernel
theorem dX10_layWindow_5 : decode cX10_layWindow 5 = .ok (.aload_n 0, 1) := by decide +kernel
theorem dX10_layWindow_6 : decode cX10_layWindow 6 = .ok (.iload_n 1, 1) := by decide +kernel
theorem dX10_layWindow_7 : decode cX10_layWindow 7 = .ok (.iconst 1, 1) := by decide +kernel
theorem dX10_layWindow_8 : decode cX10_layWindow 8 = .ok (.invokevirtual 143, 3) := by decide +kernel
theorem dX10_layWindow_11 : decode cX10_layWindow 11 = .ok (.ineg, 1) := by decide +kernel
theorem dX10_layWindow_12 : decode cX10_layWindow 12 = .ok (.istore 4, 2) := by decide +kernel
theorem dX10_layWindow_14 : decode cX10_layWindow 14 = .ok (.iload 4, 2) := by decide +kernel
theorem dX10_layWindow_16 : decode cX10_layWindow 16 = .ok (.aload_n 0, 1) := by decide +kernel
theorem dX10_layWindow_17 : decode cX10_layWindow 17 = .ok (.iload_n 1, 1) := by decide +kernel
theorem dX10_layWindow_18 : decode cX10_layWindow 18 = .ok (.iconst 1, 1) := by decide +kernel
theorem dX10_layWindow_19 : decode cX10_layWindow 19 = .ok (.invokevirtual 143, 3) := by decide +kernel
theorem dX10_layWindow_22 : decode cX10_layWindow 22 = .ok (.if_icmp .gt 63, 3) := by decide +kernel
theorem dX10_layWindow_25 : decode cX10_layWindow 25 = .ok (.aload_n 0, 1) := by decide +kernel
theorem dX10_layWindow_26 : decode cX10_layWindow 26 = .ok (.iload_n 1, 1) := by decide +kernel
theorem dX10_layWindow_27 : decode cX10_layWindow 27 = .ok (.iconst 0, 1) := by decide +kernel
theorem dX10_layWindow_28 : decode cX10_layWindow 28 = .ok (.invokevirtual 143, 3) := by decide +kernel
theorem dX10_layWindow_31 : decode cX10_layWindow 31 = .ok (.ineg, 1) := by decide +kernel
theorem dX10_layWindow_32 : decode cX10_layWindow 32 = .ok (.istore 5, 2) := by decide +kernel
theorem dX10_layWindow_34 : decode cX10_layWindow 34 = .ok (.iload 5, 2) := by decide +kernel
theorem dX10_layWindow_36 : decode cX10_layWindow 36 = .ok (.aload_n 0, 1) := by decide +kernel
theorem dX10_layWindow_37 : decode cX10_layWindow 37 = .ok (.iload_n 1, 1) := by decide +kernel
theorem dX10_layWindow_38 : decode cX10_layWindow 38 = .ok (.iconst 0, 1) := by decide +kernel
theorem dX10_layWindow_39 : decode cX10_layWindow 39 = .ok (.invokevirtual 143, 3) := by decide +kernel
theorem dX10_layWindow_42 : decode cX10_layWindow 42 = .ok (.if_icmp .gt 37, 3) := by decide +kernel
theorem dX10_layWindow_45 : decode cX10_layWindow 45 = .ok (.aload_n 0, 1) := by decide +kernel
theorem dX10_layWindow_46 : decode cX10_layWindow 46 = .ok (.iload_n 1, 1) := by decide +kernel
theorem dX10_layWindow_47 : decode cX10_layWindow 47 = .ok (.iload_n 2, 1) := by decide +kernel
theorem dX10_layWindow_48 : decode cX10_layWindow 48 = .ok (.iload 5, 2) := by decide +kernel
theorem dX10_layWindow_50 : decode cX10_layWindow 50 = .ok (.iadd, 1) := by decide +kernel
theorem dX10_layWindow_51 : decode cX10_layWindow 51 = .ok (.iload_n 3, 1) := by decide +kernel
theorem dX10_layWindow_52 : decode cX10_layWindow 52 = .ok (.iload 4, 2) := by decide +kernel
theorem dX10_layWindow_54 : decode cX10_layWindow 54 = .ok (.iadd, 1) := by decide +kernel
theorem dX10_layWindow_55 : decode cX10_layWindow 55 = .ok (.iload 5, 2) := by decide +kernel
theorem dX10_layWindow_57 : decode cX10_layWindow 57 = .ok (.ifCond .ne 12, 3) := by decide +kernel
theorem dX10_layWindow_60 : decode cX10_layWindow 60 = .ok (.iload 4, 2) := by decide +kernel
theorem dX10_layWindow_62 : decode cX10_layWindow 62 = .ok (.ifCond .ne 7, 3) := by decide +kernel
theorem dX10_layWindow_65 : decode cX10_layWindow 65 = .ok (.iconst 1, 1) := by decide +kernel
theorem dX10_layWindow_66 : decode cX10_layWindow 66 = .ok (.goto 4, 3) := by decide +kernel
theorem dX10_layWindow_69 : decode cX10_layWindow 69 = .ok (.iconst 0, 1) := by decide +kernel
theorem dX10_layWindow_70 : decode cX10_layWindow 70 = .ok (.invokevirtual 150, 3) := by decide +kernel
theorem dX10_layWindow_73 : decode cX10_layWindow 73 = .ok (.iinc 5 1, 3) := by decide +kernel
theorem dX10_layWindow_76 : decode cX10_layWindow 76 = .ok (.goto (-42), 3) := by decide +kernel
theorem dX10_layWindow_79 : decode cX10_layWindow 79 = .ok (.iinc 4 1, 3) := by decide +kernel
theorem dX10_layWindow_82 : decode cX10_layWindow 82 = .ok (.goto (-68), 3) := by decide +kernel
theorem dX10_layWindow_85 : decode cX10_layWindow 85 = .ok (.return_, 1) := by decide +kernel
theorem dX10_lastOf_0 : decode cX10_lastOf 0 = .ok (.aload_n 0, 1) := by decide +kernel
theorem dX10_lastOf_1 : decode cX10_lastOf 1 = .ok (.iload_n 1, 1) := by decide +kernel
theorem dX10_lastOf_2 : decode cX10_lastOf 2 = .ok (.iload_n 2, 1) := by decide +kernel
theorem dX10_lastOf_3 : decode cX10_lastOf 3 = .ok (.iload_n 3, 1) := by decide +kernel
theorem dX10_lastOf_4 : decode cX10_lastOf 4 = .ok (.invokevirtual 154, 3) := by decide +kernel
theorem dX10_lastOf_7 : decode cX10_lastOf 7 = .ok (.aload_n 0, 1) := by decide +kernel
theorem dX10_lastOf_8 : decode cX10_lastOf 8 = .ok (.getfield 121, 3) := by decide +kernel
theorem dX10_lastOf_11 : decode cX10_lastOf 11 = .ok (.ifCond .ne 7, 3) := by decide +kernel
theorem dX10_lastOf_14 : decode cX10_lastOf 14 = .ok (.iconst (-1), 1) := by decide +kernel
theorem dX10_lastOf_15 : decode cX10_lastOf 15 = .ok (.goto 24, 3) := by decide +kernel
theorem dX10_lastOf_18 : decode cX10_lastOf 18 = .ok (.aload_n 0, 1) := by decide +kernel
theorem dX10_lastOf_19 : decode cX10_lastOf 19 = .ok (.getfield 41, 3) := by decide +kernel
theorem dX10_lastOf_22 : decode cX10_lastOf 22 = .ok (.aload_n 0, 1) := by decide +kernel
theorem dX10_lastOf_23 : decode cX10_lastOf 23 = .ok (.iload_n 1, 1) := by decide +kernel
theorem dX10_lastOf_24 : decode cX10_lastOf 24 = .ok (.iconst 2, 1) := by decide +kernel
theorem dX10_lastOf_25 : decode cX10_lastOf 25 = .ok (.invokevirtual 143, 3) := by decide +kernel
theorem dX10_lastOf_28 : decode cX10_lastOf 28 = .ok (.aload_n 0, 1) := by decide +kernel
theorem dX10_lastOf_29 : decode cX10_lastOf 29 = .ok (.getfield 121, 3) := by decide +kernel
theorem dX10_lastOf_32 : decode cX10_lastOf 32 = .ok (.iconst 1, 1) := by decide +kernel
theorem dX10_lastOf_33 : decode cX10_lastOf 33 = .ok (.isub, 1) := by decide +kernel
theorem dX10_lastOf_34 : decode cX10_lastOf 34 = .ok (.imul, 1) := by decide +kernel
theorem dX10_lastOf_35 : decode cX10_lastOf 35 = .ok (.bipush 100, 2) := by decide +kernel
theorem dX10_lastOf_37 : decode cX10_lastOf 37 = .ok (.idiv, 1) := by decide +kernel
theorem dX10_lastOf_38 : decode cX10_lastOf 38 = .ok (.iaload, 1) := by decide +kernel
theorem dX10_lastOf_39 : decode cX10_lastOf 39 = .ok (.ireturn, 1) := by decide +kernel
theorem dX10_applyNow_0 : decode cX10_applyNow 0 = .ok (.iconst 0, 1) := by decide +kernel
theorem dX10_applyNow_1 : decode cX10_applyNow 1 = .ok (.istore_n 2, 1) := by decide +kernel
theorem dX10_applyNow_2 : decode cX10_applyNow 2 = .ok (.iconst 0, 1) := by decide +kernel
theorem dX10_applyNow_3 : decode cX10_applyNow 3 = .ok (.istore_n 3, 1) := by decide +kernel
theorem dX10_applyNow_4 : decode cX10_applyNow 4 = .ok (.iload_n 3, 1) := by decide +kernel
theorem dX10_applyNow_5 : decode cX10_applyNow 5 = .ok (.aload_n 0, 1) := by decide +kernel
theorem dX10_applyNow_6 : decode cX10_applyNow 6 = .ok (.getfield 7, 3) := by decide +kernel
theorem dX10_applyNow_9 : decode cX10_applyNow 9 = .ok (.iconst 1, 1) := by decide +kernel
theorem dX10_applyNow_10 : decode cX10_applyNow 10 = .ok (.iaload, 1) := by decide +kernel
theorem dX10_applyNow_11 : decode cX10_applyNow 11 = .ok (.if_icmp .ge 69, 3) := by decide +kernel
theorem dX10_applyNow_14 : decode cX10_applyNow 14 = .ok (.iconst 0, 1) := by decide +kernel
theorem dX10_applyNow_15 : decode cX10_applyNow 15 = .ok (.istore 4, 2) := by decide +kernel
theorem dX10_applyNow_17 : decode cX10_applyNow 17 = .ok (.iload 4, 2) := by decide +kernel
theorem dX10_applyNow_19 : decode cX10_applyNow 19 = .ok (.aload_n 0, 1) := by decide +kernel
theorem dX10_applyNow_20 : decode cX10_applyNow 20 = .ok (.getfield 7, 3) := by decide +kernel
theorem dX10_applyNow_23 : decode cX10_applyNow 23 = .ok (.iconst 0, 1) := by decide +kernel
theorem dX10_applyNow_24 : decode cX10_applyNow 24 = .ok (.iaload, 1) := by decide +kernel
theorem dX10_applyNow_25 : decode cX10_applyNow 25 = .ok (.if_icmp .ge 49, 3) := by decide +kernel
theorem dX10_applyNow_28 : decode cX10_applyNow 28 = .ok (.aload_n 0, 1) := by decide +kernel
theorem dX10_applyNow_29 : decode cX10_applyNow 29 = .ok (.getfield 44, 3) := by decide +kernel
theorem dX10_applyNow_32 : decode cX10_applyNow 32 = .ok (.aload_n 0, 1) := by decide +kernel
theorem dX10_applyNow_33 : decode cX10_applyNow 33 = .ok (.iload 4, 2) := by decide +kernel
theorem dX10_applyNow_35 : decode cX10_applyNow 35 = .ok (.iload_n 3, 1) := by decide +kernel
theorem dX10_applyNow_36 : decode cX10_applyNow 36 = .ok (.invokevirtual 54, 3) := by decide +kernel
theorem dX10_applyNow_39 : decode cX10_applyNow 39 = .ok (.aload_n 0, 1) := by decide +kernel
theorem dX10_applyNow_40 : decode cX10_applyNow 40 = .ok (.iload 4, 2) := by decide +kernel
theorem dX10_applyNow_42 : decode cX10_applyNow 42 = .ok (.iload_n 3, 1) := by decide +kernel
theorem dX10_applyNow_43 : decode cX10_applyNow 43 = .ok (.invokevirtual 62, 3) := by decide +kernel
theorem dX10_applyNow_46 : decode cX10_applyNow 46 = .ok (.ifCond .eq 13, 3) := by decide +kernel
theorem dX10_applyNow_49 : decode cX10_applyNow 49 = .ok (.aload_n 0, 1) := by decide +kernel
theorem dX10_applyNow_50 : decode cX10_applyNow 50 = .ok (.iload 4, 2) := by decide +kernel
theorem dX10_applyNow_52 : decode cX10_applyNow 52 = .ok (.iload_n 3, 1) := by decide +kernel
theorem dX10_applyNow_53 : decode cX10_applyNow 53 = .ok (.invokevirtual 137, 3) := by decide +kernel
theorem dX10_applyNow_56 : decode cX10_applyNow 56 = .ok (.goto 11, 3) := by decide +kernel
theorem dX10_applyNow_59 : decode cX10_applyNow 59 = .ok (.aload_n 0, 1) := by decide +kernel
theorem dX10_applyNow_60 : decode cX10_applyNow 60 = .ok (.iload_n 1, 1) := by decide +kernel
theorem dX10_applyNow_61 : decode cX10_applyNow 61 = .ok (.iload 4, 2) := by decide +kernel
theorem dX10_applyNow_63 : decode cX10_applyNow 63 = .ok (.iload_n 3, 1) := by decide +kernel
theorem dX10_applyNow_64 : decode cX10_applyNow 64 = .ok (.invokevirtual 157, 3) := by decide +kernel
theorem dX10_applyNow_67 : decode cX10_applyNow 67 = .ok (.iastore, 1) := by decide +kernel
theorem dX10_applyNow_68 : decode cX10_applyNow 68 = .ok (.iinc 4 1, 3) := by decide +kernel
theorem dX10_applyNow_71 : decode cX10_applyNow 71 = .ok (.goto (-54), 3) := by decide +kernel
theorem dX10_applyNow_74 : decode cX10_applyNow 74 = .ok (.iinc 3 1, 3) := by decide +kernel
theorem dX10_applyNow_77 : decode cX10_applyNow 77 = .ok (.goto (-73), 3) := by decide +kernel
theorem dX10_applyNow_80 : decode cX10_applyNow 80 = .ok (.iconst 0, 1) := by decide +kernel
theorem dX10_applyNow_81 : decode cX10_applyNow 81 = .ok (.istore_n 3, 1) := by decide +kernel
theorem dX10_applyNow_82 : decode cX10_applyNow 82 = .ok (.iload_n 3, 1) := by decide +kernel
theorem dX10_applyNow_83 : decode cX10_applyNow 83 = .ok (.aload_n 0, 1) := by decide +kernel
theorem dX10_applyNow_84 : decode cX10_applyNow 84 = .ok (.getfield 7, 3) := by decide +kernel
theorem dX10_applyNow_87 : decode cX10_applyNow 87 = .ok (.iconst 1, 1) := by decide +kernel
theorem dX10_applyNow_88 : decode cX10_applyNow 88 = .ok (.iaload, 1) := by decide +kernel
theorem dX10_applyNow_89 : decode cX10_applyNow 89 = .ok (.if_icmp .ge 78, 3) := by decide +kernel
theorem dX10_applyNow_92 : decode cX10_applyNow 92 = .ok (.iconst 0, 1) := by decide +kernel
theorem dX10_applyNow_93 : decode cX10_applyNow 93 = .ok (.istore 4, 2) := by decide +kernel
theorem dX10_applyNow_95 : decode cX10_applyNow 95 = .ok (.iload 4, 2) := by decide +kernel
theorem dX10_applyNow_97 : decode cX10_applyNow 97 = .ok (.aload_n 0, 1) := by decide +kernel
theorem dX10_applyNow_98 : decode cX10_applyNow 98 = .ok (.getfield 7, 3) := by decide +kernel
theorem dX10_applyNow_101 : decode cX10_applyNow 101 = .ok (.iconst 0, 1) := by decide +kernel
theorem dX10_applyNow_102 : decode cX10_applyNow 102 = .ok (.iaload, 1) := by decide +kernel
theorem dX10_applyNow_103 : decode cX10_applyNow 103 = .ok (.if_icmp .ge 58, 3) := by decide +kernel
theorem dX10_applyNow_106 : decode cX10_applyNow 106 = .ok (.iload_n 2, 1) := by decide +kernel
theorem dX10_applyNow_107 : decode cX10_applyNow 107 = .ok (.aload_n 0, 1) := by decide +kernel
theorem dX10_applyNow_108 : decode cX10_applyNow 108 = .ok (.getfield 44, 3) := by decide +kernel
theorem dX10_applyNow_111 : decode cX10_applyNow 111 = .ok (.aload_n 0, 1) := by decide +kernel
theorem dX10_applyNow_112 : decode cX10_applyNow 112 = .ok (.iload 4, 2) := by decide +kernel
theorem dX10_applyNow_114 : decode cX10_applyNow 114 = .ok (.iload_n 3, 1) := by decide +kernel
theorem dX10_applyNow_115 : decode cX10_applyNow 115 = .ok (.invokevirtual 54, 3) := by decide +kernel
theorem dX10_applyNow_118 : decode cX10_applyNow 118 = .ok (.iaload, 1) := by decide +kernel
theorem dX10_applyNow_119 : decode cX10_applyNow 119 = .ok (.aload_n 0, 1) := by decide +kernel
theorem dX10_applyNow_120 : decode cX10_applyNow 120 = .ok (.iload 4, 2) := by decide +kernel
theorem dX10_applyNow_122 : decode cX10_applyNow 122 = .ok (.iload_n 3, 1) := by decide +kernel
theorem dX10_applyNow_123 : decode cX10_applyNow 123 = .ok (.invokevirtual 137, 3) := by decide +kernel
theorem dX10_applyNow_126 : decode cX10_applyNow 126 = .ok (.if_icmp .eq 7, 3) := by decide +kernel
theorem dX10_applyNow_129 : decode cX10_applyNow 129 = .ok (.iconst 1, 1) := by decide +kernel
theorem dX10_applyNow_130 : decode cX10_applyNow 130 = .ok (.goto 4, 3) := by decide +kernel
theorem dX10_applyNow_133 : decode cX10_applyNow 133 = .ok (.iconst 0, 1) := by decide +kernel
theorem dX10_applyNow_134 : decode cX10_applyNow 134 = .ok (.iadd, 1) := by decide +kernel
theorem dX10_applyNow_135 : decode cX10_applyNow 135 = .ok (.istore_n 2, 1) := by decide +kernel
theorem dX10_applyNow_136 : decode cX10_applyNow 136 = .ok (.aload_n 0, 1) := by decide +kernel
theorem dX10_applyNow_137 : decode cX10_applyNow 137 = .ok (.iload 4, 2) := by decide +kernel
theorem dX10_applyNow_139 : decode cX10_applyNow 139 = .ok (.iload_n 3, 1) := by decide +kernel
theorem dX10_applyNow_140 : decode cX10_applyNow 140 = .ok (.aload_n 0, 1) := by decide +kernel
theorem dX10_applyNow_141 : decode cX10_applyNow 141 = .ok (.getfield 44, 3) := by decide +kernel
theorem dX10_applyNow_144 : decode cX10_applyNow 144 = .ok (.aload_n 0, 1) := by decide +kernel
theorem dX10_applyNow_145 : decode cX10_applyNow 145 = .ok (.iload 4, 2) := by decide +kernel
theorem dX10_applyNow_147 : decode cX10_applyNow 147 = .ok (.iload_n 3, 1) := by decide +kernel
theorem dX10_applyNow_148 : decode cX10_applyNow 148 = .ok (.invokevirtual 54, 3) := by decide +kernel
theorem dX10_applyNow_151 : decode cX10_applyNow 151 = .ok (.iaload, 1) := by decide +kernel
theorem dX10_applyNow_152 : decode cX10_applyNow 152 = .ok (.invokevirtual 160, 3) := by decide +kernel
theorem dX10_applyNow_155 : decode cX10_applyNow 155 = .ok (.iinc 4 1, 3) := by decide +kernel
theorem dX10_applyNow_158 : decode cX10_applyNow 158 = .ok (.goto (-63), 3) := by decide +kernel
theorem dX10_applyNow_161 : decode cX10_applyNow 161 = .ok (.iinc 3 1, 3) := by decide +kernel
theorem dX10_applyNow_164 : decode cX10_applyNow 164 = .ok (.goto (-82), 3) := by decide +kernel
theorem dX10_applyNow_167 : decode cX10_applyNow 167 = .ok (.iload_n 2, 1) := by decide +kernel
theorem dX10_applyNow_168 : decode cX10_applyNow 168 = .ok (.ireturn, 1) := by decide +kernel
theorem dX10_masked_0 : decode cX10_masked 0 = .ok (.iconst 0, 1) := by decide +kernel
theorem dX10_masked_1 : decode cX10_masked 1 = .ok (.istore_n 1, 1) := by decide +kernel
theorem dX10_masked_2 : decode cX10_masked 2 = .ok (.iconst 0, 1) := by decide +kernel
theorem dX10_masked_3 : decode cX10_masked 3 = .ok (.istore_n 2, 1) := by decide +kernel
theorem dX10_masked_4 : decode cX10_masked 4 = .ok (.iload_n 2, 1) := by decide +kernel
theorem dX10_masked_5 : decode cX10_masked 5 = .ok (.aload_n 0, 1) := by decide +kernel
theorem dX10_masked_6 : decode cX10_masked 6 = .ok (.getfield 7, 3) := by decide +kernel
theorem dX10_masked_9 : decode cX10_masked 9 = .ok (.iconst 1, 1) := by decide +kernel
theorem dX10_masked_10 : decode cX10_masked 10 = .ok (.iaload, 1) := by decide +kernel
theorem dX10_masked_11 : decode cX10_masked 11 = .ok (.if_icmp .ge 44, 3) := by decide +kernel
theorem dX10_masked_14 : decode cX10_masked 14 = .ok (.iconst 0, 1) := by decide +kernel
theorem dX10_masked_15 : decode cX10_masked 15 = .ok (.istore_n 3, 1) := by decide +kernel
theorem dX10_masked_16 : decode cX10_masked 16 = .ok (.iload_n 3, 1) := by decide +kernel
theorem dX10_masked_17 : decode cX10_masked 17 = .ok (.aload_n 0, 1) := by decide +kernel
theorem dX10_masked_18 : decode cX10_masked 18 = .ok (.getfield 7, 3) := by decide +kernel
theorem dX10_masked_21 : decode cX10_masked 21 = .ok (.iconst 0, 1) := by decide +kernel
theorem dX10_masked_22 : decode cX10_masked 22 = .ok (.iaload, 1) := by decide +kernel
theorem dX10_masked_23 : decode cX10_masked 23 = .ok (.if_icmp .ge 26, 3) := by decide +kernel
theorem dX10_masked_26 : decode cX10_masked 26 = .ok (.iload_n 1, 1) := by decide +kernel
theorem dX10_masked_27 : decode cX10_masked 27 = .ok (.aload_n 0, 1) := by decide +kernel
theorem dX10_masked_28 : decode cX10_masked 28 = .ok (.iload_n 3, 1) := by decide +kernel
theorem dX10_masked_29 : decode cX10_masked 29 = .ok (.iload_n 2, 1) := by decide +kernel
theorem dX10_masked_30 : decode cX10_masked 30 = .ok (.invokevirtual 62, 3) := by decide +kernel
theorem dX10_masked_33 : decode cX10_masked 33 = .ok (.ifCond .eq 7, 3) := by decide +kernel
theorem dX10_masked_36 : decode cX10_masked 36 = .ok (.iconst 1, 1) := by decide +kernel
theorem dX10_masked_37 : decode cX10_masked 37 = .ok (.goto 4, 3) := by decide +kernel
theorem dX10_masked_40 : decode cX10_masked 40 = .ok (.iconst 0, 1) := by decide +kernel
theorem dX10_masked_41 : decode cX10_masked 41 = .ok (.iadd, 1) := by decide +kernel
theorem dX10_masked_42 : decode cX10_masked 42 = .ok (.istore_n 1, 1) := by decide +kernel
theorem dX10_masked_43 : decode cX10_masked 43 = .ok (.iinc 3 1, 3) := by decide +kernel
theorem dX10_masked_46 : decode cX10_masked 46 = .ok (.goto (-30), 3) := by decide +kernel
theorem dX10_masked_49 : decode cX10_masked 49 = .ok (.iinc 2 1, 3) := by decide +kernel
theorem dX10_masked_52 : decode cX10_masked 52 = .ok (.goto (-48), 3) := by decide +kernel
theorem dX10_masked_55 : decode cX10_masked 55 = .ok (.iload_n 1, 1) := by decide +kernel
theorem dX10_masked_56 : decode cX10_masked 56 = .ok (.ireturn, 1) := by decide +kernel
theorem dX10_ofGreys_0 : decode cX10_ofGreys 0 = .ok (.iconst (-1), 1) := by decide +kernel
theorem dX10_ofGreys_1 : decode cX10_ofGreys 1 = .ok (.istore_n 2, 1) := by decide +kernel
theorem dX10_ofGreys_2 : decode cX10_ofGreys 2 = .ok (.iconst (-1), 1) := by decide +kernel
theorem dX10_ofGreys_3 : decode cX10_ofGreys 3 = .ok (.istore_n 3, 1) := by decide +kernel
theorem dX10_ofGreys_4 : decode cX10_ofGreys 4 = .ok (.iconst 0, 1) := by decide +kernel
theorem dX10_ofGreys_5 : decode cX10_ofGreys 5 = .ok (.istore 4, 2) := by decide +kernel
theorem dX10_ofGreys_7 : decode cX10_ofGreys 7 = .ok (.iconst 0, 1) := by decide +kernel
theorem dX10_ofGreys_8 : decode cX10_ofGreys 8 = .ok (.istore 5, 2) := by decide +kernel
theorem dX10_ofGreys_10 : decode cX10_ofGreys 10 = .ok (.iload 5, 2) := by decide +kernel
theorem dX10_ofGreys_12 : decode cX10_ofGreys 12 = .ok (.aload_n 0, 1) := by decide +kernel
theorem dX10_ofGreys_13 : decode cX10_ofGreys 13 = .ok (.getfield 7, 3) := by decide +kernel
theorem dX10_ofGreys_16 : decode cX10_ofGreys 16 = .ok (.iconst 1, 1) := by decide +kernel
theorem dX10_ofGreys_17 : decode cX10_ofGreys 17 = .ok (.iaload, 1) := by decide +kernel
theorem dX10_ofGreys_18 : decode cX10_ofGreys 18 = .ok (.if_icmp .ge 87, 3) := by decide +kernel
theorem dX10_ofGreys_21 : decode cX10_ofGreys 21 = .ok (.iconst 0, 1) := by decide +kernel
theorem dX10_ofGreys_22 : decode cX10_ofGreys 22 = .ok (.istore 6, 2) := by decide +kernel
theorem dX10_ofGreys_24 : decode cX10_ofGreys 24 = .ok (.iload 6, 2) := by decide +kernel
theorem dX10_ofGreys_26 : decode cX10_ofGreys 26 = .ok (.aload_n 0, 1) := by decide +kernel
theorem dX10_ofGreys_27 : decode cX10_ofGreys 27 = .ok (.getfield 7, 3) := by decide +kernel
theorem dX10_ofGreys_30 : decode cX10_ofGreys 30 = .ok (.iconst 0, 1) := by decide +kernel
theorem dX10_ofGreys_31 : decode cX10_ofGreys 31 = .ok (.iaload, 1) := by decide +kernel
theorem dX10_ofGreys_32 : decode cX10_ofGreys 32 = .ok (.if_icmp .ge 67, 3) := by decide +kernel
theorem dX10_ofGreys_35 : decode cX10_ofGreys 35 = .ok (.aload_n 0, 1) := by decide +kernel
theorem dX10_ofGreys_36 : decode cX10_ofGreys 36 = .ok (.iload 6, 2) := by decide +kernel
theorem dX10_ofGreys_38 : decode cX10_ofGreys 38 = .ok (.iload 5, 2) := by decide +kernel
theorem dX10_ofGreys_40 : decode cX10_ofGreys 40 = .ok (.invokevirtual 62, 3) := by decide +kernel
theorem dX10_ofGreys_43 : decode cX10_ofGreys 43 = .ok (.ifCond .ne 50, 3) := by decide +kernel
theorem dX10_ofGreys_46 : decode cX10_ofGreys 46 = .ok (.aload_n 0, 1) := by decide +kernel
theorem dX10_ofGreys_47 : decode cX10_ofGreys 47 = .ok (.iload 6, 2) := by decide +kernel
theorem dX10_ofGreys_49 : decode cX10_ofGreys 49 = .ok (.iload 5, 2) := by decide +kernel
theorem dX10_ofGreys_51 : decode cX10_ofGreys 51 = .ok (.invokevirtual 137, 3) := by decide +kernel
theorem dX10_ofGreys_54 : decode cX10_ofGreys 54 = .ok (.istore 7, 2) := by decide +kernel
theorem dX10_ofGreys_56 : decode cX10_ofGreys 56 = .ok (.iload_n 2, 1) := by decide +kernel
theorem dX10_ofGreys_57 : decode cX10_ofGreys 57 = .ok (.ifCond .lt 9, 3) := by decide +kernel
theorem dX10_ofGreys_60 : decode cX10_ofGreys 60 = .ok (.iload 7, 2) := by decide +kernel
theorem dX10_ofGreys_62 : decode cX10_ofGreys 62 = .ok (.iload_n 2, 1) := by decide +kernel
theorem dX10_ofGreys_63 : decode cX10_ofGreys 63 = .ok (.if_icmp .ge 8, 3) := by decide +kernel
theorem dX10_ofGreys_66 : decode cX10_ofGreys 66 = .ok (.iload 7, 2) := by decide +kernel
theorem dX10_ofGreys_68 : decode cX10_ofGreys 68 = .ok (.goto 4, 3) := by decide +kernel
theorem dX10_ofGreys_71 : decode cX10_ofGreys 71 = .ok (.iload_n 2, 1) := by decide +kernel
theorem dX10_ofGreys_72 : decode cX10_ofGreys 72 = .ok (.istore_n 2, 1) := by decide +kernel
theorem dX10_ofGreys_73 : decode cX10_ofGreys 73 = .ok (.iload 7, 2) := by decide +kernel
theorem dX10_ofGreys_75 : decode cX10_ofGreys 75 = .ok (.iload_n 3, 1) := by decide +kernel
theorem dX10_ofGreys_76 : decode cX10_ofGreys 76 = .ok (.if_icmp .le 8, 3) := by decide +kernel
theorem dX10_ofGreys_79 : decode cX10_ofGreys 79 = .ok (.iload 7, 2) := by decide +kernel
theorem dX10_ofGreys_81 : decode cX10_ofGreys 81 = .ok (.goto 4, 3) := by decide +kernel
theorem dX10_ofGreys_84 : decode cX10_ofGreys 84 = .ok (.iload_n 3, 1) := by decide +kernel
theorem dX10_ofGreys_85 : decode cX10_ofGreys 85 = .ok (.istore_n 3, 1) := by decide +kernel
theorem dX10_ofGreys_86 : decode cX10_ofGreys 86 = .ok (.iload 4, 2) := by decide +kernel
theorem dX10_ofGreys_88 : decode cX10_ofGreys 88 = .ok (.iload 7, 2) := by decide +kernel
theorem dX10_ofGreys_90 : decode cX10_ofGreys 90 = .ok (.iadd, 1) := by decide +kernel
theorem dX10_ofGreys_91 : decode cX10_ofGreys 91 = .ok (.istore 4, 2) := by decide +kernel
theorem dX10_ofGreys_93 : decode cX10_ofGreys 93 = .ok (.iinc 6 1, 3) := by decide +kernel
theorem dX10_ofGreys_96 : decode cX10_ofGreys 96 = .ok (.goto (-72), 3) := by decide +kernel
theorem dX10_ofGreys_99 : decode cX10_ofGreys 99 = .ok (.iinc 5 1, 3) := by decide +kernel
theorem dX10_ofGreys_102 : decode cX10_ofGreys 102 = .ok (.goto (-92), 3) := by decide +kernel
theorem dX10_ofGreys_105 : decode cX10_ofGreys 105 = .ok (.iload_n 1, 1) := by decide +kernel
theorem dX10_ofGreys_106 : decode cX10_ofGreys 106 = .ok (.iconst 3, 1) := by decide +kernel
theorem dX10_ofGreys_107 : decode cX10_ofGreys 107 = .ok (.if_icmp .ne 7, 3) := by decide +kernel
theorem dX10_ofGreys_110 : decode cX10_ofGreys 110 = .ok (.iload_n 2, 1) := by decide +kernel
theorem dX10_ofGreys_111 : decode cX10_ofGreys 111 = .ok (.goto 14, 3) := by decide +kernel
theorem dX10_ofGreys_114 : decode cX10_ofGreys 114 = .ok (.iload_n 1, 1) := by decide +kernel
theorem dX10_ofGreys_115 : decode cX10_ofGreys 115 = .ok (.iconst 4, 1) := by decide +kernel
theorem dX10_ofGreys_116 : decode cX10_ofGreys 116 = .ok (.if_icmp .ne 7, 3) := by decide +kernel
theorem dX10_ofGreys_119 : decode cX10_ofGreys 119 = .ok (.iload_n 3, 1) := by decide +kernel
theorem dX10_ofGreys_120 : decode cX10_ofGreys 120 = .ok (.goto 5, 3) := by decide +kernel
theorem dX10_ofGreys_123 : decode cX10_ofGreys 123 = .ok (.iload 4, 2) := by decide +kernel
theorem dX10_ofGreys_125 : decode cX10_ofGreys 125 = .ok (.ireturn, 1) := by decide +kernel
theorem dX10_wrong_0 : decode cX10_wrong 0 = .ok (.iconst 0, 1) := by decide +kernel
theorem dX10_wrong_1 : decode cX10_wrong 1 = .ok (.istore_n 1, 1) := by decide +kernel
theorem dX10_wrong_2 : decode cX10_wrong 2 = .ok (.iload_n 1, 1) := by decide +kernel
theorem dX10_wrong_3 : decode cX10_wrong 3 = .ok (.aload_n 0, 1) := by decide +kernel
theorem dX10_wrong_4 : decode cX10_wrong 4 = .ok (.getfield 163, 3) := by decide +kernel
theorem dX10_wrong_7 : decode cX10_wrong 7 = .ok (.if_icmp .ge 55, 3) := by decide +kernel
theorem dX10_wrong_10 : decode cX10_wrong 10 = .ok (.aload_n 0, 1) := by decide +kernel
theorem dX10_wrong_11 : decode cX10_wrong 11 = .ok (.aload_n 0, 1) := by decide +kernel
theorem dX10_wrong_12 : decode cX10_wrong 12 = .ok (.getfield 32, 3) := by decide +kernel
theorem dX10_wrong_15 : decode cX10_wrong 15 = .ok (.iload_n 1, 1) := by decide +kernel
theorem dX10_wrong_16 : decode cX10_wrong 16 = .ok (.iaload, 1) := by decide +kernel
theorem dX10_wrong_17 : decode cX10_wrong 17 = .ok (.aload_n 0, 1) := by decide +kernel
theorem dX10_wrong_18 : decode cX10_wrong 18 = .ok (.getfield 35, 3) := by decide +kernel
theorem dX10_wrong_21 : decode cX10_wrong 21 = .ok (.iload_n 1, 1) := by decide +kernel
theorem dX10_wrong_22 : decode cX10_wrong 22 = .ok (.iaload, 1) := by decide +kernel
theorem dX10_wrong_23 : decode cX10_wrong 23 = .ok (.invokevirtual 140, 3) := by decide +kernel
theorem dX10_wrong_26 : decode cX10_wrong 26 = .ok (.ifCond .eq 28, 3) := by decide +kernel
theorem dX10_wrong_29 : decode cX10_wrong 29 = .ok (.aload_n 0, 1) := by decide +kernel
theorem dX10_wrong_30 : decode cX10_wrong 30 = .ok (.aload_n 0, 1) := by decide +kernel
theorem dX10_wrong_31 : decode cX10_wrong 31 = .ok (.getfield 32, 3) := by decide +kernel
theorem dX10_wrong_34 : decode cX10_wrong 34 = .ok (.iload_n 1, 1) := by decide +kernel
theorem dX10_wrong_35 : decode cX10_wrong 35 = .ok (.iaload, 1) := by decide +kernel
theorem dX10_wrong_36 : decode cX10_wrong 36 = .ok (.aload_n 0, 1) := by decide +kernel
theorem dX10_wrong_37 : decode cX10_wrong 37 = .ok (.getfield 35, 3) := by decide +kernel
theorem dX10_wrong_40 : decode cX10_wrong 40 = .ok (.iload_n 1, 1) := by decide +kernel
theorem dX10_wrong_41 : decode cX10_wrong 41 = .ok (.iaload, 1) := by decide +kernel
theorem dX10_wrong_42 : decode cX10_wrong 42 = .ok (.invokevirtual 137, 3) := by decide +kernel
theorem dX10_wrong_45 : decode cX10_wrong 45 = .ok (.aload_n 0, 1) := by decide +kernel
theorem dX10_wrong_46 : decode cX10_wrong 46 = .ok (.getfield 38, 3) := by decide +kernel
theorem dX10_wrong_49 : decode cX10_wrong 49 = .ok (.iload_n 1, 1) := by decide +kernel
theorem dX10_wrong_50 : decode cX10_wrong 50 = .ok (.iaload, 1) := by decide +kernel
theorem dX10_wrong_51 : decode cX10_wrong 51 = .ok (.if_icmp .eq 5, 3) := by decide +kernel
theorem dX10_wrong_54 : decode cX10_wrong 54 = .ok (.iload_n 1, 1) := by decide +kernel
theorem dX10_wrong_55 : decode cX10_wrong 55 = .ok (.ireturn, 1) := by decide +kernel
theorem dX10_wrong_56 : decode cX10_wrong 56 = .ok (.iinc 1 1, 3) := by decide +kernel
theorem dX10_wrong_59 : decode cX10_wrong 59 = .ok (.goto (-57), 3) := by decide +kernel
theorem dX10_wrong_62 : decode cX10_wrong 62 = .ok (.iconst (-1), 1) := by decide +kernel
theorem dX10_wrong_63 : decode cX10_wrong 63 = .ok (.ireturn, 1) := by decide +kernel
theorem dX10_told_0 : decode cX10_told 0 = .ok (.iload_n 1, 1) := by decide +kernel
theorem dX10_told_1 : decode cX10_told 1 = .ok (.tableswitch 120 0 11 #[63, 70, 77, 82, 82, 82, 88, 93, 100, 105, 110, 115], 63) := by decide +kernel
theorem dX10_told_64 : decode cX10_told 64 = .ok (.aload_n 0, 1) := by decide +kernel
theorem dX10_told_65 : decode cX10_told 65 = .ok (.getfield 7, 3) := by decide +kernel
theorem dX10_told_68 : decode cX10_told 68 = .ok (.iconst 0, 1) := by decide +kernel
theorem dX10_told_69 : decode cX10_told 69 = .ok (.iaload, 1) := by decide +kernel
theorem dX10_told_70 : decode cX10_told 70 = .ok (.ireturn, 1) := by decide +kernel
theorem dX10_told_71 : decode cX10_told 71 = .ok (.aload_n 0, 1) := by decide +kernel
theorem dX10_told_72 : decode cX10_told 72 = .ok (.getfield 7, 3) := by decide +kernel
theorem dX10_told_75 : decode cX10_told 75 = .ok (.iconst 1, 1) := by decide +kernel
theorem dX10_told_76 : decode cX10_told 76 = .ok (.iaload, 1) := by decide +kernel
theorem dX10_told_77 : decode cX10_told 77 = .ok (.ireturn, 1) := by decide +kernel
theorem dX10_told_78 : decode cX10_told 78 = .ok (.aload_n 0, 1) := by decide +kernel
theorem dX10_told_79 : decode cX10_told 79 = .ok (.invokevirtual 166, 3) := by decide +kernel
theorem dX10_told_82 : decode cX10_told 82 = .ok (.ireturn, 1) := by decide +kernel
theorem dX10_told_83 : decode cX10_told 83 = .ok (.aload_n 0, 1) := by decide +kernel
theorem dX10_told_84 : decode cX10_told 84 = .ok (.iload_n 1, 1) := by decide +kernel
theorem dX10_told_85 : decode cX10_told 85 = .ok (.invokevirtual 169, 3) := by decide +kernel
theorem dX10_told_88 : decode cX10_told 88 = .ok (.ireturn, 1) := by decide +kernel
theorem dX10_told_89 : decode cX10_told 89 = .ok (.aload_n 0, 1) := by decide +kernel
theorem dX10_told_90 : decode cX10_told 90 = .ok (.getfield 98, 3) := by decide +kernel
theorem dX10_told_93 : decode cX10_told 93 = .ok (.ireturn, 1) := by decide +kernel
theorem dX10_told_94 : decode cX10_told 94 = .ok (.aload_n 0, 1) := by decide +kernel
theorem dX10_told_95 : decode cX10_told 95 = .ok (.getfield 20, 3) := by decide +kernel
theorem dX10_told_98 : decode cX10_told 98 = .ok (.iconst 0, 1) := by decide +kernel
theorem dX10_told_99 : decode cX10_told 99 = .ok (.iaload, 1) := by decide +kernel
theorem dX10_told_100 : decode cX10_told 100 = .ok (.ireturn, 1) := by decide +kernel
theorem dX10_told_101 : decode cX10_told 101 = .ok (.aload_n 0, 1) := by decide +kernel
theorem dX10_told_102 : decode cX10_told 102 = .ok (.getfield 127, 3) := by decide +kernel
theorem dX10_told_105 : decode cX10_told 105 = .ok (.ireturn, 1) := by decide +kernel
theorem dX10_told_106 : decode cX10_told 106 = .ok (.aload_n 0, 1) := by decide +kernel
theorem dX10_told_107 : decode cX10_told 107 = .ok (.getfield 163, 3) := by decide +kernel
theorem dX10_told_110 : decode cX10_told 110 = .ok (.ireturn, 1) := by decide +kernel
theorem dX10_told_111 : decode cX10_told 111 = .ok (.aload_n 0, 1) := by decide +kernel
theorem dX10_told_112 : decode cX10_told 112 = .ok (.invokevirtual 172, 3) := by decide +kernel
theorem dX10_told_115 : decode cX10_told 115 = .ok (.ireturn, 1) := by decide +kernel
theorem dX10_told_116 : decode cX10_told 116 = .ok (.aload_n 0, 1) := by decide +kernel
theorem dX10_told_117 : decode cX10_told 117 = .ok (.getfield 51, 3) := by decide +kernel
theorem dX10_told_120 : decode cX10_told 120 = .ok (.ireturn, 1) := by decide +kernel
theorem dX10_told_121 : decode cX10_told 121 = .ok (.ldc 110, 2) := by decide +kernel
theorem dX10_told_123 : decode cX10_told 123 = .ok (.ireturn, 1) := by decide +kernel
theorem dX10_at_0 : decode cX10_at 0 = .ok (.aload_n 0, 1) := by decide +kernel
theorem dX10_at_1 : decode cX10_at 1 = .ok (.iload_n 1, 1) := by decide +kernel
theorem dX10_at_2 : decode cX10_at 2 = .ok (.iload_n 2, 1) := by decide +kernel
theorem dX10_at_3 : decode cX10_at 3 = .ok (.invokevirtual 140, 3) := by decide +kernel
theorem dX10_at_6 : decode cX10_at 6 = .ok (.ifCond .ne 6, 3) := by decide +kernel
theorem dX10_at_9 : decode cX10_at 9 = .ok (.ldc 175, 2) := by decide +kernel
theorem dX10_at_11 : decode cX10_at 11 = .ok (.ireturn, 1) := by decide +kernel
theorem dX10_at_12 : decode cX10_at 12 = .ok (.iload_n 3, 1) := by decide +kernel
theorem dX10_at_13 : decode cX10_at 13 = .ok (.ifCond .ne 12, 3) := by decide +kernel
theorem dX10_at_16 : decode cX10_at 16 = .ok (.aload_n 0, 1) := by decide +kernel
theorem dX10_at_17 : decode cX10_at 17 = .ok (.iload_n 1, 1) := by decide +kernel
theorem dX10_at_18 : decode cX10_at 18 = .ok (.iload_n 2, 1) := by decide +kernel
theorem dX10_at_19 : decode cX10_at 19 = .ok (.invokevirtual 137, 3) := by decide +kernel
theorem dX10_at_22 : decode cX10_at 22 = .ok (.goto 27, 3) := by decide +kernel
theorem dX10_at_25 : decode cX10_at 25 = .ok (.iload_n 3, 1) := by decide +kernel
theorem dX10_at_26 : decode cX10_at 26 = .ok (.iconst 1, 1) := by decide +kernel
theorem dX10_at_27 : decode cX10_at 27 = .ok (.if_icmp .ne 20, 3) := by decide +kernel
theorem dX10_at_30 : decode cX10_at 30 = .ok (.aload_n 0, 1) := by decide +kernel
theorem dX10_at_31 : decode cX10_at 31 = .ok (.iload_n 1, 1) := by decide +kernel
theorem dX10_at_32 : decode cX10_at 32 = .ok (.iload_n 2, 1) := by decide +kernel
theorem dX10_at_33 : decode cX10_at 33 = .ok (.invokevirtual 62, 3) := by decide +kernel
theorem dX10_at_36 : decode cX10_at 36 = .ok (.ifCond .eq 7, 3) := by decide +kernel
theorem dX10_at_39 : decode cX10_at 39 = .ok (.iconst 1, 1) := by decide +kernel
theorem dX10_at_40 : decode cX10_at 40 = .ok (.goto 9, 3) := by decide +kernel
theorem dX10_at_43 : decode cX10_at 43 = .ok (.iconst 0, 1) := by decide +kernel
theorem dX10_at_44 : decode cX10_at 44 = .ok (.goto 5, 3) := by decide +kernel
theorem dX10_at_47 : decode cX10_at 47 = .ok (.ldc 110, 2) := by decide +kernel
theorem dX10_at_49 : decode cX10_at 49 = .ok (.ireturn, 1) := by decide +kernel
theorem dX10_tally_0 : decode cX10_tally 0 = .ok (.aload_n 0, 1) := by decide +kernel
theorem dX10_tally_1 : decode cX10_tally 1 = .ok (.iload_n 1, 1) := by decide +kernel
theorem dX10_tally_2 : decode cX10_tally 2 = .ok (.iload_n 2, 1) := by decide +kernel
theorem dX10_tally_3 : decode cX10_tally 3 = .ok (.invokevirtual 140, 3) := by decide +kernel
theorem dX10_tally_6 : decode cX10_tally 6 = .ok (.ifCond .eq 13, 3) := by decide +kernel
theorem dX10_tally_9 : decode cX10_tally 9 = .ok (.aload_n 0, 1) := by decide +kernel
theorem dX10_tally_10 : decode cX10_tally 10 = .ok (.iload_n 3, 1) := by decide +kernel
theorem dX10_tally_11 : decode cX10_tally 11 = .ok (.iload 4, 2) := by decide +kernel
theorem dX10_tally_13 : decode cX10_tally 13 = .ok (.invokevirtual 140, 3) := by decide +kernel
theorem dX10_tally_16 : decode cX10_tally 16 = .ok (.ifCond .ne 6, 3) := by decide +kernel
theorem dX10_tally_19 : decode cX10_tally 19 = .ok (.ldc 175, 2) := by decide +kernel
theorem dX10_tally_21 : decode cX10_tally 21 = .ok (.ireturn, 1) := by decide +kernel
theorem dX10_tally_22 : decode cX10_tally 22 = .ok (.iload_n 3, 1) := by decide +kernel
theorem dX10_tally_23 : decode cX10_tally 23 = .ok (.iload_n 1, 1) := by decide +kernel
theorem dX10_tally_24 : decode cX10_tally 24 = .ok (.if_icmp .lt 24, 3) := by decide +kernel
theorem dX10_tally_27 : decode cX10_tally 27 = .ok (.iload 4, 2) := by decide +kernel
theorem dX10_tally_29 : decode cX10_tally 29 = .ok (.iload_n 2, 1) := by decide +kernel
theorem dX10_tally_30 : decode cX10_tally 30 = .ok (.if_icmp .lt 18, 3) := by decide +kernel
theorem dX10_tally_33 : decode cX10_tally 33 = .ok (.iload 5, 2) := by decide +kernel
theorem dX10_tally_35 : decode cX10_tally 35 = .ok (.i2l, 1) := by decide +kernel
theorem dX10_tally_36 : decode cX10_tally 36 = .ok (.ldc2_w 176, 3) := by decide +kernel
theorem dX10_tally_39 : decode cX10_tally 39 = .ok (.ldc2_w 178, 3) := by decide +kernel
theorem dX10_tally_42 : decode cX10_tally 42 = .ok (.invokestatic 58, 3) := by decide +kernel
theorem dX10_tally_45 : decode cX10_tally 45 = .ok (.ifCond .ne 6, 3) := by decide +kernel
theorem dX10_tally_48 : decode cX10_tally 48 = .ok (.ldc 110, 2) := by decide +kernel
theorem dX10_tally_50 : decode cX10_tally 50 = .ok (.ireturn, 1) := by decide +kernel
theorem dX10_tally_51 : decode cX10_tally 51 = .ok (.iconst 0, 1) := by decide +kernel
theorem dX10_tally_52 : decode cX10_tally 52 = .ok (.istore 6, 2) := by decide +kernel
theorem dX10_tally_54 : decode cX10_tally 54 = .ok (.iload_n 2, 1) := by decide +kernel
theorem dX10_tally_55 : decode cX10_tally 55 = .ok (.istore 7, 2) := by decide +kernel
theorem dX10_tally_57 : decode cX10_tally 57 = .ok (.iload 7, 2) := by decide +kernel
theorem dX10_tally_59 : decode cX10_tally 59 = .ok (.iload 4, 2) := by decide +kernel
theorem dX10_tally_61 : decode cX10_tally 61 = .ok (.if_icmp .gt 58, 3) := by decide +kernel
theorem dX10_tally_64 : decode cX10_tally 64 = .ok (.iload_n 1, 1) := by decide +kernel
theorem dX10_tally_65 : decode cX10_tally 65 = .ok (.istore 8, 2) := by decide +kernel
theorem dX10_tally_67 : decode cX10_tally 67 = .ok (.iload 8, 2) := by decide +kernel
theorem dX10_tally_69 : decode cX10_tally 69 = .ok (.iload_n 3, 1) := by decide +kernel
theorem dX10_tally_70 : decode cX10_tally 70 = .ok (.if_icmp .gt 43, 3) := by decide +kernel
theorem dX10_tally_73 : decode cX10_tally 73 = .ok (.iload 6, 2) := by decide +kernel
theorem dX10_tally_75 : decode cX10_tally 75 = .ok (.aload_n 0, 1) := by decide +kernel
theorem dX10_tally_76 : decode cX10_tally 76 = .ok (.iload 8, 2) := by decide +kernel
theorem dX10_tally_78 : decode cX10_tally 78 = .ok (.iload 7, 2) := by decide +kernel
theorem dX10_tally_80 : decode cX10_tally 80 = .ok (.invokevirtual 62, 3) := by decide +kernel
theorem dX10_tally_83 : decode cX10_tally 83 = .ok (.ifCond .ne 20, 3) := by decide +kernel
theorem dX10_tally_86 : decode cX10_tally 86 = .ok (.aload_n 0, 1) := by decide +kernel
theorem dX10_tally_87 : decode cX10_tally 87 = .ok (.iload 8, 2) := by decide +kernel
theorem dX10_tally_89 : decode cX10_tally 89 = .ok (.iload 7, 2) := by decide +kernel
theorem dX10_tally_91 : decode cX10_tally 91 = .ok (.invokevirtual 137, 3) := by decide +kernel
theorem dX10_tally_94 : decode cX10_tally 94 = .ok (.iload 5, 2) := by decide +kernel
theorem dX10_tally_96 : decode cX10_tally 96 = .ok (.if_icmp .gt 7, 3) := by decide +kernel
theorem dX10_tally_99 : decode cX10_tally 99 = .ok (.iconst 1, 1) := by decide +kernel
theorem dX10_tally_100 : decode cX10_tally 100 = .ok (.goto 4, 3) := by decide +kernel
theorem dX10_tally_103 : decode cX10_tally 103 = .ok (.iconst 0, 1) := by decide +kernel
theorem dX10_tally_104 : decode cX10_tally 104 = .ok (.iadd, 1) := by decide +kernel
theorem dX10_tally_105 : decode cX10_tally 105 = .ok (.istore 6, 2) := by decide +kernel
theorem dX10_tally_107 : decode cX10_tally 107 = .ok (.iinc 8 1, 3) := by decide +kernel
theorem dX10_tally_110 : decode cX10_tally 110 = .ok (.goto (-43), 3) := by decide +kernel
theorem dX10_tally_113 : decode cX10_tally 113 = .ok (.iinc 7 1, 3) := by decide +kernel
theorem dX10_tally_116 : decode cX10_tally 116 = .ok (.goto (-59), 3) := by decide +kernel
theorem dX10_tally_119 : decode cX10_tally 119 = .ok (.iload 6, 2) := by decide +kernel
theorem dX10_tally_121 : decode cX10_tally 121 = .ok (.ireturn, 1) := by decide +kernel
theorem dX10_filter_0 : decode cX10_filter 0 = .ok (.iload_n 1, 1) := by decide +kernel
theorem dX10_filter_1 : decode cX10_filter 1 = .ok (.i2l, 1) := by decide +kernel
theorem dX10_filter_2 : decode cX10_filter 2 = .ok (.lconst 0, 1) := by decide +kernel
theorem dX10_filter_3 : decode cX10_filter 3 = .ok (.ldc2_w 180, 3) := by decide +kernel
theorem dX10_filter_6 : decode cX10_filter 6 = .ok (.invokestatic 58, 3) := by decide +kernel
theorem dX10_filter_9 : decode cX10_filter 9 = .ok (.ifCond .eq 57, 3) := by decide +kernel
theorem dX10_filter_12 : decode cX10_filter 12 = .ok (.iload_n 2, 1) := by decide +kernel
theorem dX10_filter_13 : decode cX10_filter 13 = .ok (.i2l, 1) := by decide +kernel
theorem dX10_filter_14 : decode cX10_filter 14 = .ok (.lconst 0, 1) := by decide +kernel
theorem dX10_filter_15 : decode cX10_filter 15 = .ok (.ldc2_w 180, 3) := by decide +kernel
theorem dX10_filter_18 : decode cX10_filter 18 = .ok (.invokestatic 58, 3) := by decide +kernel
theorem dX10_filter_21 : decode cX10_filter 21 = .ok (.ifCond .eq 45, 3) := by decide +kernel
theorem dX10_filter_24 : decode cX10_filter 24 = .ok (.iload_n 3, 1) := by decide +kernel
theorem dX10_filter_25 : decode cX10_filter 25 = .ok (.i2l, 1) := by decide +kernel
theorem dX10_filter_26 : decode cX10_filter 26 = .ok (.lconst 0, 1) := by decide +kernel
theorem dX10_filter_27 : decode cX10_filter 27 = .ok (.ldc2_w 182, 3) := by decide +kernel
theorem dX10_filter_30 : decode cX10_filter 30 = .ok (.invokestatic 58, 3) := by decide +kernel
theorem dX10_filter_33 : decode cX10_filter 33 = .ok (.ifCond .eq 33, 3) := by decide +kernel
theorem dX10_filter_36 : decode cX10_filter 36 = .ok (.iload 4, 2) := by decide +kernel
theorem dX10_filter_38 : decode cX10_filter 38 = .ok (.i2l, 1) := by decide +kernel
theorem dX10_filter_39 : decode cX10_filter 39 = .ok (.lconst 0, 1) := by decide +kernel
theorem dX10_filter_40 : decode cX10_filter 40 = .ok (.ldc2_w 180, 3) := by decide +kernel
theorem dX10_filter_43 : decode cX10_filter 43 = .ok (.invokestatic 58, 3) := by decide +kernel
theorem dX10_filter_46 : decode cX10_filter 46 = .ok (.ifCond .eq 20, 3) := by decide +kernel
theorem dX10_filter_49 : decode cX10_filter 49 = .ok (.iload 5, 2) := by decide +kernel
theorem dX10_filter_51 : decode cX10_filter 51 = .ok (.i2l, 1) := by decide +kernel
theorem dX10_filter_52 : decode cX10_filter 52 = .ok (.lconst 1, 1) := by decide +kernel
theorem dX10_filter_53 : decode cX10_filter 53 = .ok (.ldc2_w 184, 3) := by decide +kernel
theorem dX10_filter_56 : decode cX10_filter 56 = .ok (.invokestatic 58, 3) := by decide +kernel
theorem dX10_filter_59 : decode cX10_filter 59 = .ok (.ifCond .eq 7, 3) := by decide +kernel
theorem dX10_filter_62 : decode cX10_filter 62 = .ok (.iconst 1, 1) := by decide +kernel
theorem dX10_filter_63 : decode cX10_filter 63 = .ok (.goto 4, 3) := by decide +kernel
theorem dX10_filter_66 : decode cX10_filter 66 = .ok (.iconst 0, 1) := by decide +kernel
theorem dX10_filter_67 : decode cX10_filter 67 = .ok (.istore 6, 2) := by decide +kernel
theorem dX10_filter_69 : decode cX10_filter 69 = .ok (.iload 6, 2) := by decide +kernel
theorem dX10_filter_71 : decode cX10_filter 71 = .ok (.ifCond .ne 6, 3) := by decide +kernel
theorem dX10_filter_74 : decode cX10_filter 74 = .ok (.ldc 110, 2) := by decide +kernel
theorem dX10_filter_76 : decode cX10_filter 76 = .ok (.ireturn, 1) := by decide +kernel
theorem dX10_filter_77 : decode cX10_filter 77 = .ok (.aload_n 0, 1) := by decide +kernel
theorem dX10_filter_78 : decode cX10_filter 78 = .ok (.getfield 20, 3) := by decide +kernel
theorem dX10_filter_81 : decode cX10_filter 81 = .ok (.iconst 0, 1) := by decide +kernel
theorem dX10_filter_82 : decode cX10_filter 82 = .ok (.iaload, 1) := by decide +kernel
theorem dX10_filter_83 : decode cX10_filter 83 = .ok (.bipush 6, 2) := by decide +kernel
theorem dX10_filter_85 : decode cX10_filter 85 = .ok (.if_icmp .ne 6, 3) := by decide +kernel
theorem dX10_filter_88 : decode cX10_filter 88 = .ok (.ldc 111, 2) := by decide +kernel
theorem dX10_filter_90 : decode cX10_filter 90 = .ok (.ireturn, 1) := by decide +kernel
theorem dX10_filter_91 : decode cX10_filter 91 = .ok (.iconst 1, 1) := by decide +kernel
theorem dX10_filter_92 : decode cX10_filter 92 = .ok (.iconst 5, 1) := by decide +kernel
theorem dX10_filter_93 : decode cX10_filter 93 = .ok (.aload_n 0, 1) := by decide +kernel
theorem dX10_filter_94 : decode cX10_filter 94 = .ok (.getfield 20, 3) := by decide +kernel
theorem dX10_filter_97 : decode cX10_filter 97 = .ok (.iconst 0, 1) := by decide +kernel
theorem dX10_filter_98 : decode cX10_filter 98 = .ok (.iaload, 1) := by decide +kernel
theorem dX10_filter_99 : decode cX10_filter 99 = .ok (.imul, 1) := by decide +kernel
theorem dX10_filter_100 : decode cX10_filter 100 = .ok (.iadd, 1) := by decide +kernel
theorem dX10_filter_101 : decode cX10_filter 101 = .ok (.istore 7, 2) := by decide +kernel
theorem dX10_filter_103 : decode cX10_filter 103 = .ok (.aload_n 0, 1) := by decide +kernel
theorem dX10_filter_104 : decode cX10_filter 104 = .ok (.getfield 20, 3) := by decide +kernel
theorem dX10_filter_107 : decode cX10_filter 107 = .ok (.iload 7, 2) := by decide +kernel
theorem dX10_filter_109 : decode cX10_filter 109 = .ok (.iload_n 1, 1) := by decide +kernel
theorem dX10_filter_110 : decode cX10_filter 110 = .ok (.iastore, 1) := by decide +kernel
theorem dX10_filter_111 : decode cX10_filter 111 = .ok (.aload_n 0, 1) := by decide +kernel
theorem dX10_filter_112 : decode cX10_filter 112 = .ok (.getfield 20, 3) := by decide +kernel
theorem dX10_filter_115 : decode cX10_filter 115 = .ok (.iload 7, 2) := by decide +kernel
theorem dX10_filter_117 : decode cX10_filter 117 = .ok (.iconst 1, 1) := by decide +kernel
theorem dX10_filter_118 : decode cX10_filter 118 = .ok (.iadd, 1) := by decide +kernel
theorem dX10_filter_119 : decode cX10_filter 119 = .ok (.iload_n 2, 1) := by decide +kernel
theorem dX10_filter_120 : decode cX10_filter 120 = .ok (.iastore, 1) := by decide +kernel
theorem dX10_filter_121 : decode cX10_filter 121 = .ok (.aload_n 0, 1) := by decide +kernel
theorem dX10_filter_122 : decode cX10_filter 122 = .ok (.getfield 20, 3) := by decide +kernel
theorem dX10_filter_125 : decode cX10_filter 125 = .ok (.iload 7, 2) := by decide +kernel
theorem dX10_filter_127 : decode cX10_filter 127 = .ok (.iconst 2, 1) := by decide +kernel
theorem dX10_filter_128 : decode cX10_filter 128 = .ok (.iadd, 1) := by decide +kernel
theorem dX10_filter_129 : decode cX10_filter 129 = .ok (.iload_n 3, 1) := by decide +kernel
theorem dX10_filter_130 : decode cX10_filter 130 = .ok (.iastore, 1) := by decide +kernel
theorem dX10_filter_131 : decode cX10_filter 131 = .ok (.aload_n 0, 1) := by decide +kernel
theorem dX10_filter_132 : decode cX10_filter 132 = .ok (.getfield 20, 3) := by decide +kernel
theorem dX10_filter_135 : decode cX10_filter 135 = .ok (.iload 7, 2) := by decide +kernel
theorem dX10_filter_137 : decode cX10_filter 137 = .ok (.iconst 3, 1) := by decide +kernel
theorem dX10_filter_138 : decode cX10_filter 138 = .ok (.iadd, 1) := by decide +kernel
theorem dX10_filter_139 : decode cX10_filter 139 = .ok (.iload 4, 2) := by decide +kernel
theorem dX10_filter_141 : decode cX10_filter 141 = .ok (.iastore, 1) := by decide +kernel
theorem dX10_filter_142 : decode cX10_filter 142 = .ok (.aload_n 0, 1) := by decide +kernel
theorem dX10_filter_143 : decode cX10_filter 143 = .ok (.getfield 20, 3) := by decide +kernel
theorem dX10_filter_146 : decode cX10_filter 146 = .ok (.iload 7, 2) := by decide +kernel
theorem dX10_filter_148 : decode cX10_filter 148 = .ok (.iconst 4, 1) := by decide +kernel
theorem dX10_filter_149 : decode cX10_filter 149 = .ok (.iadd, 1) := by decide +kernel
theorem dX10_filter_150 : decode cX10_filter 150 = .ok (.iload 5, 2) := by decide +kernel
theorem dX10_filter_152 : decode cX10_filter 152 = .ok (.iastore, 1) := by decide +kernel
theorem dX10_filter_153 : decode cX10_filter 153 = .ok (.aload_n 0, 1) := by decide +kernel
theorem dX10_filter_154 : decode cX10_filter 154 = .ok (.getfield 20, 3) := by decide +kernel
theorem dX10_filter_157 : decode cX10_filter 157 = .ok (.iconst 0, 1) := by decide +kernel
theorem dX10_filter_158 : decode cX10_filter 158 = .ok (.dup2, 1) := by decide +kernel
theorem dX10_filter_159 : decode cX10_filter 159 = .ok (.iaload, 1) := by decide +kernel
theorem dX10_filter_160 : decode cX10_filter 160 = .ok (.iconst 1, 1) := by decide +kernel
theorem dX10_filter_161 : decode cX10_filter 161 = .ok (.iadd, 1) := by decide +kernel
theorem dX10_filter_162 : decode cX10_filter 162 = .ok (.iastore, 1) := by decide +kernel
theorem dX10_filter_163 : decode cX10_filter 163 = .ok (.aload_n 0, 1) := by decide +kernel
theorem dX10_filter_164 : decode cX10_filter 164 = .ok (.getfield 20, 3) := by decide +kernel
theorem dX10_filter_167 : decode cX10_filter 167 = .ok (.iconst 0, 1) := by decide +kernel
theorem dX10_filter_168 : decode cX10_filter 168 = .ok (.iaload, 1) := by decide +kernel
theorem dX10_filter_169 : decode cX10_filter 169 = .ok (.iconst 1, 1) := by decide +kernel
theorem dX10_filter_170 : decode cX10_filter 170 = .ok (.isub, 1) := by decide +kernel
theorem dX10_filter_171 : decode cX10_filter 171 = .ok (.ireturn, 1) := by decide +kernel
theorem dX10_isFilter_0 : decode cX10_isFilter 0 = .ok (.iload_n 1, 1) := by decide +kernel
theorem dX10_isFilter_1 : decode cX10_isFilter 1 = .ok (.i2l, 1) := by decide +kernel
theorem dX10_isFilter_2 : decode cX10_isFilter 2 = .ok (.lconst 0, 1) := by decide +kernel
theorem dX10_isFilter_3 : decode cX10_isFilter 3 = .ok (.aload_n 0, 1) := by decide +kernel
theorem dX10_isFilter_4 : decode cX10_isFilter 4 = .ok (.getfield 20, 3) := by decide +kernel
theorem dX10_isFilter_7 : decode cX10_isFilter 7 = .ok (.iconst 0, 1) := by decide +kernel
theorem dX10_isFilter_8 : decode cX10_isFilter 8 = .ok (.iaload, 1) := by decide +kernel
theorem dX10_isFilter_9 : decode cX10_isFilter 9 = .ok (.iconst 1, 1) := by decide +kernel
theorem dX10_isFilter_10 : decode cX10_isFilter 10 = .ok (.isub, 1) := by decide +kernel
theorem dX10_isFilter_11 : decode cX10_isFilter 11 = .ok (.i2l, 1) := by decide +kernel
theorem dX10_isFilter_12 : decode cX10_isFilter 12 = .ok (.invokestatic 58, 3) := by decide +kernel
theorem dX10_isFilter_15 : decode cX10_isFilter 15 = .ok (.ireturn, 1) := by decide +kernel
theorem dX10_drop_0 : decode cX10_drop 0 = .ok (.aload_n 0, 1) := by decide +kernel
theorem dX10_drop_1 : decode cX10_drop 1 = .ok (.iload_n 1, 1) := by decide +kernel
theorem dX10_drop_2 : decode cX10_drop 2 = .ok (.invokevirtual 186, 3) := by decide +kernel
theorem dX10_drop_5 : decode cX10_drop 5 = .ok (.ifCond .ne 6, 3) := by decide +kernel
theorem dX10_drop_8 : decode cX10_drop 8 = .ok (.ldc 175, 2) := by decide +kernel
theorem dX10_drop_10 : decode cX10_drop 10 = .ok (.ireturn, 1) := by decide +kernel
theorem dX10_drop_11 : decode cX10_drop 11 = .ok (.iconst 1, 1) := by decide +kernel
theorem dX10_drop_12 : decode cX10_drop 12 = .ok (.iconst 5, 1) := by decide +kernel
theorem dX10_drop_13 : decode cX10_drop 13 = .ok (.iload_n 1, 1) := by decide +kernel
theorem dX10_drop_14 : decode cX10_drop 14 = .ok (.imul, 1) := by decide +kernel
theorem dX10_drop_15 : decode cX10_drop 15 = .ok (.iadd, 1) := by decide +kernel
theorem dX10_drop_16 : decode cX10_drop 16 = .ok (.istore_n 2, 1) := by decide +kernel
theorem dX10_drop_17 : decode cX10_drop 17 = .ok (.iload_n 2, 1) := by decide +kernel
theorem dX10_drop_18 : decode cX10_drop 18 = .ok (.iconst 5, 1) := by decide +kernel
theorem dX10_drop_19 : decode cX10_drop 19 = .ok (.iadd, 1) := by decide +kernel
theorem dX10_drop_20 : decode cX10_drop 20 = .ok (.bipush 31, 2) := by decide +kernel
theorem dX10_drop_22 : decode cX10_drop 22 = .ok (.if_icmp .ge 23, 3) := by decide +kernel
theorem dX10_drop_25 : decode cX10_drop 25 = .ok (.aload_n 0, 1) := by decide +kernel
theorem dX10_drop_26 : decode cX10_drop 26 = .ok (.getfield 20, 3) := by decide +kernel
theorem dX10_drop_29 : decode cX10_drop 29 = .ok (.iload_n 2, 1) := by decide +kernel
theorem dX10_drop_30 : decode cX10_drop 30 = .ok (.aload_n 0, 1) := by decide +kernel
theorem dX10_drop_31 : decode cX10_drop 31 = .ok (.getfield 20, 3) := by decide +kernel
theorem dX10_drop_34 : decode cX10_drop 34 = .ok (.iload_n 2, 1) := by decide +kernel
theorem dX10_drop_35 : decode cX10_drop 35 = .ok (.iconst 5, 1) := by decide +kernel
theorem dX10_drop_36 : decode cX10_drop 36 = .ok (.iadd, 1) := by decide +kernel
theorem dX10_drop_37 : decode cX10_drop 37 = .ok (.iaload, 1) := by decide +kernel
theorem dX10_drop_38 : decode cX10_drop 38 = .ok (.iastore, 1) := by decide +kernel
theorem dX10_drop_39 : decode cX10_drop 39 = .ok (.iinc 2 1, 3) := by decide +kernel
theorem dX10_drop_42 : decode cX10_drop 42 = .ok (.goto (-25), 3) := by decide +kernel
theorem dX10_drop_45 : decode cX10_drop 45 = .ok (.aload_n 0, 1) := by decide +kernel
theorem dX10_drop_46 : decode cX10_drop 46 = .ok (.getfield 20, 3) := by decide +kernel
theorem dX10_drop_49 : decode cX10_drop 49 = .ok (.iconst 0, 1) := by decide +kernel
theorem dX10_drop_50 : decode cX10_drop 50 = .ok (.dup2, 1) := by decide +kernel
theorem dX10_drop_51 : decode cX10_drop 51 = .ok (.iaload, 1) := by decide +kernel
theorem dX10_drop_52 : decode cX10_drop 52 = .ok (.iconst 1, 1) := by decide +kernel
theorem dX10_drop_53 : decode cX10_drop 53 = .ok (.isub, 1) := by decide +kernel
theorem dX10_drop_54 : decode cX10_drop 54 = .ok (.iastore, 1) := by decide +kernel
theorem dX10_drop_55 : decode cX10_drop 55 = .ok (.aload_n 0, 1) := by decide +kernel
theorem dX10_drop_56 : decode cX10_drop 56 = .ok (.getfield 20, 3) := by decide +kernel
theorem dX10_drop_59 : decode cX10_drop 59 = .ok (.iconst 0, 1) := by decide +kernel
theorem dX10_drop_60 : decode cX10_drop 60 = .ok (.iaload, 1) := by decide +kernel
theorem dX10_drop_61 : decode cX10_drop 61 = .ok (.ireturn, 1) := by decide +kernel
theorem dX10_fill_0 : decode cX10_fill 0 = .ok (.iload_n 1, 1) := by decide +kernel
theorem dX10_fill_1 : decode cX10_fill 1 = .ok (.i2l, 1) := by decide +kernel
theorem dX10_fill_2 : decode cX10_fill 2 = .ok (.lconst 0, 1) := by decide +kernel
theorem dX10_fill_3 : decode cX10_fill 3 = .ok (.ldc2_w 108, 3) := by decide +kernel
theorem dX10_fill_6 : decode cX10_fill 6 = .ok (.invokestatic 58, 3) := by decide +kernel
theorem dX10_fill_9 : decode cX10_fill 9 = .ok (.ifCond .ne 6, 3) := by decide +kernel
theorem dX10_fill_12 : decode cX10_fill 12 = .ok (.ldc 110, 2) := by decide +kernel
theorem dX10_fill_14 : decode cX10_fill 14 = .ok (.ireturn, 1) := by decide +kernel
theorem dX10_fill_15 : decode cX10_fill 15 = .ok (.aload_n 0, 1) := by decide +kernel
theorem dX10_fill_16 : decode cX10_fill 16 = .ok (.getfield 127, 3) := by decide +kernel
theorem dX10_fill_19 : decode cX10_fill 19 = .ok (.istore_n 2, 1) := by decide +kernel
theorem dX10_fill_20 : decode cX10_fill 20 = .ok (.aload_n 0, 1) := by decide +kernel
theorem dX10_fill_21 : decode cX10_fill 21 = .ok (.iload_n 1, 1) := by decide +kernel
theorem dX10_fill_22 : decode cX10_fill 22 = .ok (.putfield 127, 3) := by decide +kernel
theorem dX10_fill_25 : decode cX10_fill 25 = .ok (.iload_n 2, 1) := by decide +kernel
theorem dX10_fill_26 : decode cX10_fill 26 = .ok (.ireturn, 1) := by decide +kernel
theorem dX10_below_0 : decode cX10_below 0 = .ok (.iconst 0, 1) := by decide +kernel
theorem dX10_below_1 : decode cX10_below 1 = .ok (.istore_n 2, 1) := by decide +kernel
theorem dX10_below_2 : decode cX10_below 2 = .ok (.iconst 0, 1) := by decide +kernel
theorem dX10_below_3 : decode cX10_below 3 = .ok (.istore_n 3, 1) := by decide +kernel
theorem dX10_below_4 : decode cX10_below 4 = .ok (.iload_n 3, 1) := by decide +kernel
theorem dX10_below_5 : decode cX10_below 5 = .ok (.aload_n 0, 1) := by decide +kernel
theorem dX10_below_6 : decode cX10_below 6 = .ok (.getfield 121, 3) := by decide +kernel
theorem dX10_below_9 : decode cX10_below 9 = .ok (.if_icmp .ge 27, 3) := by decide +kernel
theorem dX10_below_12 : decode cX10_below 12 = .ok (.iload_n 2, 1) := by decide +kernel
theorem dX10_below_13 : decode cX10_below 13 = .ok (.aload_n 0, 1) := by decide +kernel
theorem dX10_below_14 : decode cX10_below 14 = .ok (.getfield 41, 3) := by decide +kernel
theorem dX10_below_17 : decode cX10_below 17 = .ok (.iload_n 3, 1) := by decide +kernel
theorem dX10_below_18 : decode cX10_below 18 = .ok (.iaload, 1) := by decide +kernel
theorem dX10_below_19 : decode cX10_below 19 = .ok (.iload_n 1, 1) := by decide +kernel
theorem dX10_below_20 : decode cX10_below 20 = .ok (.if_icmp .ge 7, 3) := by decide +kernel
theorem dX10_below_23 : decode cX10_below 23 = .ok (.iconst 1, 1) := by decide +kernel
theorem dX10_below_24 : decode cX10_below 24 = .ok (.goto 4, 3) := by decide +kernel
theorem dX10_below_27 : decode cX10_below 27 = .ok (.iconst 0, 1) := by decide +kernel
theorem dX10_below_28 : decode cX10_below 28 = .ok (.iadd, 1) := by decide +kernel
theorem dX10_below_29 : decode cX10_below 29 = .ok (.istore_n 2, 1) := by decide +kernel
theorem dX10_below_30 : decode cX10_below 30 = .ok (.iinc 3 1, 3) := by decide +kernel
theorem dX10_below_33 : decode cX10_below 33 = .ok (.goto (-29), 3) := by decide +kernel
theorem dX10_below_36 : decode cX10_below 36 = .ok (.iload_n 2, 1) := by decide +kernel
theorem dX10_below_37 : decode cX10_below 37 = .ok (.ireturn, 1) := by decide +kernel
theorem dX10_would_0 : decode cX10_would 0 = .ok (.aload_n 0, 1) := by decide +kernel
theorem dX10_would_1 : decode cX10_would 1 = .ok (.iload_n 1, 1) := by decide +kernel
theorem dX10_would_2 : decode cX10_would 2 = .ok (.invokevirtual 186, 3) := by decide +kernel
theorem dX10_would_5 : decode cX10_would 5 = .ok (.ifCond .eq 12, 3) := by decide +kernel
theorem dX10_would_8 : decode cX10_would 8 = .ok (.aload_n 0, 1) := by decide +kernel
theorem dX10_would_9 : decode cX10_would 9 = .ok (.iload_n 2, 1) := by decide +kernel
theorem dX10_would_10 : decode cX10_would 10 = .ok (.iload_n 3, 1) := by decide +kernel
theorem dX10_would_11 : decode cX10_would 11 = .ok (.invokevirtual 140, 3) := by decide +kernel
theorem dX10_would_14 : decode cX10_would 14 = .ok (.ifCond .ne 6, 3) := by decide +kernel
theorem dX10_would_17 : decode cX10_would 17 = .ok (.ldc 175, 2) := by decide +kernel
theorem dX10_would_19 : decode cX10_would 19 = .ok (.ireturn, 1) := by decide +kernel
theorem dX10_would_20 : decode cX10_would 20 = .ok (.aload_n 0, 1) := by decide +kernel
theorem dX10_would_21 : decode cX10_would 21 = .ok (.iload_n 1, 1) := by decide +kernel
theorem dX10_would_22 : decode cX10_would 22 = .ok (.iload_n 2, 1) := by decide +kernel
theorem dX10_would_23 : decode cX10_would 23 = .ok (.iload_n 3, 1) := by decide +kernel
theorem dX10_would_24 : decode cX10_would 24 = .ok (.invokevirtual 157, 3) := by decide +kernel
theorem dX10_would_27 : decode cX10_would 27 = .ok (.istore 5, 2) := by decide +kernel
theorem dX10_would_29 : decode cX10_would 29 = .ok (.iload 4, 2) := by decide +kernel
theorem dX10_would_31 : decode cX10_would 31 = .ok (.tableswitch 78 0 3 #[29, 32, 37, 48], 29) := by decide +kernel
theorem dX10_would_60 : decode cX10_would 60 = .ok (.iload 5, 2) := by decide +kernel
theorem dX10_would_62 : decode cX10_would 62 = .ok (.ireturn, 1) := by decide +kernel
theorem dX10_would_63 : decode cX10_would 63 = .ok (.aload_n 0, 1) := by decide +kernel
theorem dX10_would_64 : decode cX10_would 64 = .ok (.getfield 121, 3) := by decide +kernel
theorem dX10_would_67 : decode cX10_would 67 = .ok (.ireturn, 1) := by decide +kernel
theorem dX10_would_68 : decode cX10_would 68 = .ok (.aload_n 0, 1) := by decide +kernel
theorem dX10_would_69 : decode cX10_would 69 = .ok (.aload_n 0, 1) := by decide +kernel
theorem dX10_would_70 : decode cX10_would 70 = .ok (.iload_n 2, 1) := by decide +kernel
theorem dX10_would_71 : decode cX10_would 71 = .ok (.iload_n 3, 1) := by decide +kernel
theorem dX10_would_72 : decode cX10_would 72 = .ok (.invokevirtual 137, 3) := by decide +kernel
theorem dX10_would_75 : decode cX10_would 75 = .ok (.invokevirtual 190, 3) := by decide +kernel
theorem dX10_would_78 : decode cX10_would 78 = .ok (.ireturn, 1) := by decide +kernel
theorem dX10_would_79 : decode cX10_would 79 = .ok (.aload_n 0, 1) := by decide +kernel
theorem dX10_would_80 : decode cX10_would 80 = .ok (.getfield 121, 3) := by decide +kernel
theorem dX10_would_83 : decode cX10_would 83 = .ok (.ifCond .ne 7, 3) := by decide +kernel
theorem dX10_would_86 : decode cX10_would 86 = .ok (.iconst (-1), 1) := by decide +kernel
theorem dX10_would_87 : decode cX10_would 87 = .ok (.goto 21, 3) := by decide +kernel
theorem dX10_would_90 : decode cX10_would 90 = .ok (.aload_n 0, 1) := by decide +kernel
theorem dX10_would_91 : decode cX10_would 91 = .ok (.getfield 41, 3) := by decide +kernel
theorem dX10_would_94 : decode cX10_would 94 = .ok (.aload_n 0, 1) := by decide +kernel
theorem dX10_would_95 : decode cX10_would 95 = .ok (.getfield 121, 3) := by decide +kernel
theorem dX10_would_98 : decode cX10_would 98 = .ok (.iconst 1, 1) := by decide +kernel
theorem dX10_would_99 : decode cX10_would 99 = .ok (.isub, 1) := by decide +kernel
theorem dX10_would_100 : decode cX10_would 100 = .ok (.iaload, 1) := by decide +kernel
theorem dX10_would_101 : decode cX10_would 101 = .ok (.aload_n 0, 1) := by decide +kernel
theorem dX10_would_102 : decode cX10_would 102 = .ok (.getfield 41, 3) := by decide +kernel
theorem dX10_would_105 : decode cX10_would 105 = .ok (.iconst 0, 1) := by decide +kernel
theorem dX10_would_106 : decode cX10_would 106 = .ok (.iaload, 1) := by decide +kernel
theorem dX10_would_107 : decode cX10_would 107 = .ok (.isub, 1) := by decide +kernel
theorem dX10_would_108 : decode cX10_would 108 = .ok (.ireturn, 1) := by decide +kernel
theorem dX10_would_109 : decode cX10_would 109 = .ok (.ldc 110, 2) := by decide +kernel
theorem dX10_would_111 : decode cX10_would 111 = .ok (.ireturn, 1) := by decide +kernel
theorem dX10_bins_0 : decode cX10_bins 0 = .ok (.aload_n 0, 1) := by decide +kernel
theorem dX10_bins_1 : decode cX10_bins 1 = .ok (.iload_n 1, 1) := by decide +kernel
theorem dX10_bins_2 : decode cX10_bins 2 = .ok (.invokevirtual 186, 3) := by decide +kernel
theorem dX10_bins_5 : decode cX10_bins 5 = .ok (.ifCond .ne 6, 3) := by decide +kernel
theorem dX10_bins_8 : decode cX10_bins 8 = .ok (.ldc 175, 2) := by decide +kernel
theorem dX10_bins_10 : decode cX10_bins 10 = .ok (.ireturn, 1) := by decide +kernel
theorem dX10_bins_11 : decode cX10_bins 11 = .ok (.iconst 0, 1) := by decide +kernel
theorem dX10_bins_12 : decode cX10_bins 12 = .ok (.istore_n 2, 1) := by decide +kernel
theorem dX10_bins_13 : decode cX10_bins 13 = .ok (.iconst 0, 1) := by decide +kernel
theorem dX10_bins_14 : decode cX10_bins 14 = .ok (.istore_n 3, 1) := by decide +kernel
theorem dX10_bins_15 : decode cX10_bins 15 = .ok (.iload_n 3, 1) := by decide +kernel
theorem dX10_bins_16 : decode cX10_bins 16 = .ok (.aload_n 0, 1) := by decide +kernel
theorem dX10_bins_17 : decode cX10_bins 17 = .ok (.getfield 7, 3) := by decide +kernel
theorem dX10_bins_20 : decode cX10_bins 20 = .ok (.iconst 1, 1) := by decide +kernel
theorem dX10_bins_21 : decode cX10_bins 21 = .ok (.iaload, 1) := by decide +kernel
theorem dX10_bins_22 : decode cX10_bins 22 = .ok (.if_icmp .ge 78, 3) := by decide +kernel
theorem dX10_bins_25 : decode cX10_bins 25 = .ok (.iconst 0, 1) := by decide +kernel
theorem dX10_bins_26 : decode cX10_bins 26 = .ok (.istore 4, 2) := by decide +kernel
theorem dX10_bins_28 : decode cX10_bins 28 = .ok (.iload 4, 2) := by decide +kernel
theorem dX10_bins_30 : decode cX10_bins 30 = .ok (.aload_n 0, 1) := by decide +kernel
theorem dX10_bins_31 : decode cX10_bins 31 = .ok (.getfield 7, 3) := by decide +kernel
theorem dX10_bins_34 : decode cX10_bins 34 = .ok (.iconst 0, 1) := by decide +kernel
theorem dX10_bins_35 : decode cX10_bins 35 = .ok (.iaload, 1) := by decide +kernel
theorem dX10_bins_36 : decode cX10_bins 36 = .ok (.if_icmp .ge 58, 3) := by decide +kernel
theorem dX10_bins_39 : decode cX10_bins 39 = .ok (.aload_n 0, 1) := by decide +kernel
theorem dX10_bins_40 : decode cX10_bins 40 = .ok (.iload 4, 2) := by decide +kernel
theorem dX10_bins_42 : decode cX10_bins 42 = .ok (.iload_n 3, 1) := by decide +kernel
theorem dX10_bins_43 : decode cX10_bins 43 = .ok (.invokevirtual 62, 3) := by decide +kernel
theorem dX10_bins_46 : decode cX10_bins 46 = .ok (.ifCond .eq 7, 3) := by decide +kernel
theorem dX10_bins_49 : decode cX10_bins 49 = .ok (.iconst (-1), 1) := by decide +kernel
theorem dX10_bins_50 : decode cX10_bins 50 = .ok (.goto 11, 3) := by decide +kernel
theorem dX10_bins_53 : decode cX10_bins 53 = .ok (.aload_n 0, 1) := by decide +kernel
theorem dX10_bins_54 : decode cX10_bins 54 = .ok (.iload_n 1, 1) := by decide +kernel
theorem dX10_bins_55 : decode cX10_bins 55 = .ok (.iload 4, 2) := by decide +kernel
theorem dX10_bins_57 : decode cX10_bins 57 = .ok (.iload_n 3, 1) := by decide +kernel
theorem dX10_bins_58 : decode cX10_bins 58 = .ok (.invokevirtual 157, 3) := by decide +kernel
theorem dX10_bins_61 : decode cX10_bins 61 = .ok (.istore 5, 2) := by decide +kernel
theorem dX10_bins_63 : decode cX10_bins 63 = .ok (.iload_n 2, 1) := by decide +kernel
theorem dX10_bins_64 : decode cX10_bins 64 = .ok (.iload 5, 2) := by decide +kernel
theorem dX10_bins_66 : decode cX10_bins 66 = .ok (.ifCond .ge 7, 3) := by decide +kernel
theorem dX10_bins_69 : decode cX10_bins 69 = .ok (.iconst 0, 1) := by decide +kernel
theorem dX10_bins_70 : decode cX10_bins 70 = .ok (.goto 16, 3) := by decide +kernel
theorem dX10_bins_73 : decode cX10_bins 73 = .ok (.iload 5, 2) := by decide +kernel
theorem dX10_bins_75 : decode cX10_bins 75 = .ok (.bipush 16, 2) := by decide +kernel
theorem dX10_bins_77 : decode cX10_bins 77 = .ok (.idiv, 1) := by decide +kernel
theorem dX10_bins_78 : decode cX10_bins 78 = .ok (.iload 5, 2) := by decide +kernel
theorem dX10_bins_80 : decode cX10_bins 80 = .ok (.bipush 16, 2) := by decide +kernel
theorem dX10_bins_82 : decode cX10_bins 82 = .ok (.irem, 1) := by decide +kernel
theorem dX10_bins_83 : decode cX10_bins 83 = .ok (.iadd, 1) := by decide +kernel
theorem dX10_bins_84 : decode cX10_bins 84 = .ok (.iconst 2, 1) := by decide +kernel
theorem dX10_bins_85 : decode cX10_bins 85 = .ok (.iadd, 1) := by decide +kernel
theorem dX10_bins_86 : decode cX10_bins 86 = .ok (.iadd, 1) := by decide +kernel
theorem dX10_bins_87 : decode cX10_bins 87 = .ok (.istore_n 2, 1) := by decide +kernel
theorem dX10_bins_88 : decode cX10_bins 88 = .ok (.iinc 4 1, 3) := by decide +kernel
theorem dX10_bins_91 : decode cX10_bins 91 = .ok (.goto (-63), 3) := by decide +kernel
theorem dX10_bins_94 : decode cX10_bins 94 = .ok (.iinc 3 1, 3) := by decide +kernel
theorem dX10_bins_97 : decode cX10_bins 97 = .ok (.goto (-82), 3) := by decide +kernel
theorem dX10_bins_100 : decode cX10_bins 100 = .ok (.iload_n 2, 1) := by decide +kernel
theorem dX10_bins_101 : decode cX10_bins 101 = .ok (.ireturn, 1) := by decide +kernel
theorem dX10_spikes_0 : decode cX10_spikes 0 = .ok (.aload_n 0, 1) := by decide +kernel
theorem dX10_spikes_1 : decode cX10_spikes 1 = .ok (.iload_n 1, 1) := by decide +kernel
theorem dX10_spikes_2 : decode cX10_spikes 2 = .ok (.invokevirtual 186, 3) := by decide +kernel
theorem dX10_spikes_5 : decode cX10_spikes 5 = .ok (.ifCond .ne 6, 3) := by decide +kernel
theorem dX10_spikes_8 : decode cX10_spikes 8 = .ok (.ldc 175, 2) := by decide +kernel
theorem dX10_spikes_10 : decode cX10_spikes 10 = .ok (.ireturn, 1) := by decide +kernel
theorem dX10_spikes_11 : decode cX10_spikes 11 = .ok (.iload_n 2, 1) := by decide +kernel
theorem dX10_spikes_12 : decode cX10_spikes 12 = .ok (.i2l, 1) := by decide +kernel
theorem dX10_spikes_13 : decode cX10_spikes 13 = .ok (.lconst 0, 1) := by decide +kernel
theorem dX10_spikes_14 : decode cX10_spikes 14 = .ok (.ldc2_w 108, 3) := by decide +kernel
theorem dX10_spikes_17 : decode cX10_spikes 17 = .ok (.invokestatic 58, 3) := by decide +kernel
theorem dX10_spikes_20 : decode cX10_spikes 20 = .ok (.ifCond .ne 6, 3) := by decide +kernel
theorem dX10_spikes_23 : decode cX10_spikes 23 = .ok (.ldc 110, 2) := by decide +kernel
theorem dX10_spikes_25 : decode cX10_spikes 25 = .ok (.ireturn, 1) := by decide +kernel
theorem dX10_spikes_26 : decode cX10_spikes 26 = .ok (.iconst 0, 1) := by decide +kernel
theorem dX10_spikes_27 : decode cX10_spikes 27 = .ok (.istore_n 3, 1) := by decide +kernel
theorem dX10_spikes_28 : decode cX10_spikes 28 = .ok (.iconst 0, 1) := by decide +kernel
theorem dX10_spikes_29 : decode cX10_spikes 29 = .ok (.istore 4, 2) := by decide +kernel
theorem dX10_spikes_31 : decode cX10_spikes 31 = .ok (.iload 4, 2) := by decide +kernel
theorem dX10_spikes_33 : decode cX10_spikes 33 = .ok (.aload_n 0, 1) := by decide +kernel
theorem dX10_spikes_34 : decode cX10_spikes 34 = .ok (.getfield 7, 3) := by decide +kernel
theorem dX10_spikes_37 : decode cX10_spikes 37 = .ok (.iconst 1, 1) := by decide +kernel
theorem dX10_spikes_38 : decode cX10_spikes 38 = .ok (.iaload, 1) := by decide +kernel
theorem dX10_spikes_39 : decode cX10_spikes 39 = .ok (.if_icmp .ge 85, 3) := by decide +kernel
theorem dX10_spikes_42 : decode cX10_spikes 42 = .ok (.iconst 0, 1) := by decide +kernel
theorem dX10_spikes_43 : decode cX10_spikes 43 = .ok (.istore 5, 2) := by decide +kernel
theorem dX10_spikes_45 : decode cX10_spikes 45 = .ok (.iload 5, 2) := by decide +kernel
theorem dX10_spikes_47 : decode cX10_spikes 47 = .ok (.aload_n 0, 1) := by decide +kernel
theorem dX10_spikes_48 : decode cX10_spikes 48 = .ok (.getfield 7, 3) := by decide +kernel
theorem dX10_spikes_51 : decode cX10_spikes 51 = .ok (.iconst 0, 1) := by decide +kernel
theorem dX10_spikes_52 : decode cX10_spikes 52 = .ok (.iaload, 1) := by decide +kernel
theorem dX10_spikes_53 : decode cX10_spikes 53 = .ok (.if_icmp .ge 65, 3) := by decide +kernel
theorem dX10_spikes_56 : decode cX10_spikes 56 = .ok (.aload_n 0, 1) := by decide +kernel
theorem dX10_spikes_57 : decode cX10_spikes 57 = .ok (.iload 5, 2) := by decide +kernel
theorem dX10_spikes_59 : decode cX10_spikes 59 = .ok (.iload 4, 2) := by decide +kernel
theorem dX10_spikes_61 : decode cX10_spikes 61 = .ok (.invokevirtual 62, 3) := by decide +kernel
theorem dX10_spikes_64 : decode cX10_spikes 64 = .ok (.ifCond .eq 7, 3) := by decide +kernel
theorem dX10_spikes_67 : decode cX10_spikes 67 = .ok (.iconst 0, 1) := by decide +kernel
theorem dX10_spikes_68 : decode cX10_spikes 68 = .ok (.goto 21, 3) := by decide +kernel
theorem dX10_spikes_71 : decode cX10_spikes 71 = .ok (.aload_n 0, 1) := by decide +kernel
theorem dX10_spikes_72 : decode cX10_spikes 72 = .ok (.iload 5, 2) := by decide +kernel
theorem dX10_spikes_74 : decode cX10_spikes 74 = .ok (.iload 4, 2) := by decide +kernel
theorem dX10_spikes_76 : decode cX10_spikes 76 = .ok (.invokevirtual 137, 3) := by decide +kernel
theorem dX10_spikes_79 : decode cX10_spikes 79 = .ok (.aload_n 0, 1) := by decide +kernel
theorem dX10_spikes_80 : decode cX10_spikes 80 = .ok (.iload_n 1, 1) := by decide +kernel
theorem dX10_spikes_81 : decode cX10_spikes 81 = .ok (.iload 5, 2) := by decide +kernel
theorem dX10_spikes_83 : decode cX10_spikes 83 = .ok (.iload 4, 2) := by decide +kernel
theorem dX10_spikes_85 : decode cX10_spikes 85 = .ok (.invokevirtual 157, 3) := by decide +kernel
theorem dX10_spikes_88 : decode cX10_spikes 88 = .ok (.isub, 1) := by decide +kernel
theorem dX10_spikes_89 : decode cX10_spikes 89 = .ok (.istore 6, 2) := by decide +kernel
theorem dX10_spikes_91 : decode cX10_spikes 91 = .ok (.iload_n 3, 1) := by decide +kernel
theorem dX10_spikes_92 : decode cX10_spikes 92 = .ok (.iload 6, 2) := by decide +kernel
theorem dX10_spikes_94 : decode cX10_spikes 94 = .ok (.iload_n 2, 1) := by decide +kernel
theorem dX10_spikes_95 : decode cX10_spikes 95 = .ok (.if_icmp .gt 10, 3) := by decide +kernel
theorem dX10_spikes_98 : decode cX10_spikes 98 = .ok (.iload 6, 2) := by decide +kernel
theorem dX10_spikes_100 : decode cX10_spikes 100 = .ok (.ineg, 1) := by decide +kernel
theorem dX10_spikes_101 : decode cX10_spikes 101 = .ok (.iload_n 2, 1) := by decide +kernel
theorem dX10_spikes_102 : decode cX10_spikes 102 = .ok (.if_icmp .le 7, 3) := by decide +kernel
theorem dX10_spikes_105 : decode cX10_spikes 105 = .ok (.iconst 1, 1) := by decide +kernel
theorem dX10_spikes_106 : decode cX10_spikes 106 = .ok (.goto 4, 3) := by decide +kernel
theorem dX10_spikes_109 : decode cX10_spikes 109 = .ok (.iconst 0, 1) := by decide +kernel
theorem dX10_spikes_110 : decode cX10_spikes 110 = .ok (.iadd, 1) := by decide +kernel
theorem dX10_spikes_111 : decode cX10_spikes 111 = .ok (.istore_n 3, 1) := by decide +kernel
theorem dX10_spikes_112 : decode cX10_spikes 112 = .ok (.iinc 5 1, 3) := by decide +kernel
theorem dX10_spikes_115 : decode cX10_spikes 115 = .ok (.goto (-70), 3) := by decide +kernel
theorem dX10_spikes_118 : decode cX10_spikes 118 = .ok (.iinc 4 1, 3) := by decide +kernel
theorem dX10_spikes_121 : decode cX10_spikes 121 = .ok (.goto (-90), 3) := by decide +kernel
theorem dX10_spikes_124 : decode cX10_spikes 124 = .ok (.iload_n 3, 1) := by decide +kernel
theorem dX10_spikes_125 : decode cX10_spikes 125 = .ok (.ireturn, 1) := by decide +kernel
theorem dX10_dot_0 : decode cX10_dot 0 = .ok (.aload_n 0, 1) := by decide +kernel
theorem dX10_dot_1 : decode cX10_dot 1 = .ok (.iload_n 1, 1) := by decide +kernel
theorem dX10_dot_2 : decode cX10_dot 2 = .ok (.iload_n 2, 1) := by decide +kernel
theorem dX10_dot_3 : decode cX10_dot 3 = .ok (.invokevirtual 140, 3) := by decide +kernel
theorem dX10_dot_6 : decode cX10_dot 6 = .ok (.ifCond .ne 6, 3) := by decide +kernel
theorem dX10_dot_9 : decode cX10_dot 9 = .ok (.ldc 175, 2) := by decide +kernel
theorem dX10_dot_11 : decode cX10_dot 11 = .ok (.ireturn, 1) := by decide +kernel
theorem dX10_dot_12 : decode cX10_dot 12 = .ok (.iload_n 3, 1) := by decide +kernel
theorem dX10_dot_13 : decode cX10_dot 13 = .ok (.i2l, 1) := by decide +kernel
theorem dX10_dot_14 : decode cX10_dot 14 = .ok (.lconst 0, 1) := by decide +kernel
theorem dX10_dot_15 : decode cX10_dot 15 = .ok (.ldc2_w 108, 3) := by decide +kernel
theorem dX10_dot_18 : decode cX10_dot 18 = .ok (.invokestatic 58, 3) := by decide +kernel
theorem dX10_dot_21 : decode cX10_dot 21 = .ok (.ifCond .ne 6, 3) := by decide +kernel
theorem dX10_dot_24 : decode cX10_dot 24 = .ok (.ldc 110, 2) := by decide +kernel
theorem dX10_dot_26 : decode cX10_dot 26 = .ok (.ireturn, 1) := by decide +kernel
theorem dX10_dot_27 : decode cX10_dot 27 = .ok (.aload_n 0, 1) := by decide +kernel
theorem dX10_dot_28 : decode cX10_dot 28 = .ok (.invokevirtual 115, 3) := by decide +kernel
theorem dX10_dot_31 : decode cX10_dot 31 = .ok (.aload_n 0, 1) := by decide +kernel
theorem dX10_dot_32 : decode cX10_dot 32 = .ok (.iload_n 1, 1) := by decide +kernel
theorem dX10_dot_33 : decode cX10_dot 33 = .ok (.iload_n 2, 1) := by decide +kernel
theorem dX10_dot_34 : decode cX10_dot 34 = .ok (.invokevirtual 137, 3) := by decide +kernel
theorem dX10_dot_37 : decode cX10_dot 37 = .ok (.istore 4, 2) := by decide +kernel
theorem dX10_dot_39 : decode cX10_dot 39 = .ok (.aload_n 0, 1) := by decide +kernel
theorem dX10_dot_40 : decode cX10_dot 40 = .ok (.iload_n 1, 1) := by decide +kernel
theorem dX10_dot_41 : decode cX10_dot 41 = .ok (.iload_n 2, 1) := by decide +kernel
theorem dX10_dot_42 : decode cX10_dot 42 = .ok (.iload_n 3, 1) := by decide +kernel
theorem dX10_dot_43 : decode cX10_dot 43 = .ok (.invokevirtual 160, 3) := by decide +kernel
theorem dX10_dot_46 : decode cX10_dot 46 = .ok (.iload 4, 2) := by decide +kernel
theorem dX10_dot_48 : decode cX10_dot 48 = .ok (.ireturn, 1) := by decide +kernel
theorem dX10_mask_0 : decode cX10_mask 0 = .ok (.aload_n 0, 1) := by decide +kernel
theorem dX10_mask_1 : decode cX10_mask 1 = .ok (.iload_n 1, 1) := by decide +kernel
theorem dX10_mask_2 : decode cX10_mask 2 = .ok (.iload_n 2, 1) := by decide +kernel
theorem dX10_mask_3 : decode cX10_mask 3 = .ok (.invokevirtual 140, 3) := by decide +kernel
theorem dX10_mask_6 : decode cX10_mask 6 = .ok (.ifCond .ne 6, 3) := by decide +kernel
theorem dX10_mask_9 : decode cX10_mask 9 = .ok (.ldc 175, 2) := by decide +kernel
theorem dX10_mask_11 : decode cX10_mask 11 = .ok (.ireturn, 1) := by decide +kernel
theorem dX10_mask_12 : decode cX10_mask 12 = .ok (.aload_n 0, 1) := by decide +kernel
theorem dX10_mask_13 : decode cX10_mask 13 = .ok (.invokevirtual 115, 3) := by decide +kernel
theorem dX10_mask_16 : decode cX10_mask 16 = .ok (.aload_n 0, 1) := by decide +kernel
theorem dX10_mask_17 : decode cX10_mask 17 = .ok (.getfield 7, 3) := by decide +kernel
theorem dX10_mask_20 : decode cX10_mask 20 = .ok (.aload_n 0, 1) := by decide +kernel
theorem dX10_mask_21 : decode cX10_mask 21 = .ok (.iload_n 1, 1) := by decide +kernel
theorem dX10_mask_22 : decode cX10_mask 22 = .ok (.iload_n 2, 1) := by decide +kernel
theorem dX10_mask_23 : decode cX10_mask 23 = .ok (.invokevirtual 54, 3) := by decide +kernel
theorem dX10_mask_26 : decode cX10_mask 26 = .ok (.aload_n 0, 1) := by decide +kernel
theorem dX10_mask_27 : decode cX10_mask 27 = .ok (.iload_n 1, 1) := by decide +kernel
theorem dX10_mask_28 : decode cX10_mask 28 = .ok (.iload_n 2, 1) := by decide +kernel
theorem dX10_mask_29 : decode cX10_mask 29 = .ok (.invokevirtual 137, 3) := by decide +kernel
theorem dX10_mask_32 : decode cX10_mask 32 = .ok (.iload_n 3, 1) := by decide +kernel
theorem dX10_mask_33 : decode cX10_mask 33 = .ok (.ifCond .eq 9, 3) := by decide +kernel
theorem dX10_mask_36 : decode cX10_mask 36 = .ok (.sipush 256, 3) := by decide +kernel
theorem dX10_mask_39 : decode cX10_mask 39 = .ok (.goto 4, 3) := by decide +kernel
theorem dX10_mask_42 : decode cX10_mask 42 = .ok (.iconst 0, 1) := by decide +kernel
theorem dX10_mask_43 : decode cX10_mask 43 = .ok (.iadd, 1) := by decide +kernel
theorem dX10_mask_44 : decode cX10_mask 44 = .ok (.iastore, 1) := by decide +kernel
theorem dX10_mask_45 : decode cX10_mask 45 = .ok (.aload_n 0, 1) := by decide +kernel
theorem dX10_mask_46 : decode cX10_mask 46 = .ok (.invokevirtual 166, 3) := by decide +kernel
theorem dX10_mask_49 : decode cX10_mask 49 = .ok (.ireturn, 1) := by decide +kernel
theorem dX10_turnedFrom_0 : decode cX10_turnedFrom 0 = .ok (.bipush 82, 2) := by decide +kernel
theorem dX10_turnedFrom_2 : decode cX10_turnedFrom 2 = .ok (.iload_n 1, 1) := by decide +kernel
theorem dX10_turnedFrom_3 : decode cX10_turnedFrom 3 = .ok (.ifCond .ne 21, 3) := by decide +kernel
theorem dX10_turnedFrom_6 : decode cX10_turnedFrom 6 = .ok (.aload_n 0, 1) := by decide +kernel
theorem dX10_turnedFrom_7 : decode cX10_turnedFrom 7 = .ok (.aload_n 0, 1) := by decide +kernel
theorem dX10_turnedFrom_8 : decode cX10_turnedFrom 8 = .ok (.getfield 7, 3) := by decide +kernel
theorem dX10_turnedFrom_11 : decode cX10_turnedFrom 11 = .ok (.iconst 0, 1) := by decide +kernel
theorem dX10_turnedFrom_12 : decode cX10_turnedFrom 12 = .ok (.iaload, 1) := by decide +kernel
theorem dX10_turnedFrom_13 : decode cX10_turnedFrom 13 = .ok (.iconst 1, 1) := by decide +kernel
theorem dX10_turnedFrom_14 : decode cX10_turnedFrom 14 = .ok (.isub, 1) := by decide +kernel
theorem dX10_turnedFrom_15 : decode cX10_turnedFrom 15 = .ok (.iload_n 2, 1) := by decide +kernel
theorem dX10_turnedFrom_16 : decode cX10_turnedFrom 16 = .ok (.isub, 1) := by decide +kernel
theorem dX10_turnedFrom_17 : decode cX10_turnedFrom 17 = .ok (.iload_n 3, 1) := by decide +kernel
theorem dX10_turnedFrom_18 : decode cX10_turnedFrom 18 = .ok (.invokevirtual 54, 3) := by decide +kernel
theorem dX10_turnedFrom_21 : decode cX10_turnedFrom 21 = .ok (.goto 46, 3) := by decide +kernel
theorem dX10_turnedFrom_24 : decode cX10_turnedFrom 24 = .ok (.iload_n 1, 1) := by decide +kernel
theorem dX10_turnedFrom_25 : decode cX10_turnedFrom 25 = .ok (.iconst 1, 1) := by decide +kernel
theorem dX10_turnedFrom_26 : decode cX10_turnedFrom 26 = .ok (.if_icmp .ne 21, 3) := by decide +kernel
theorem dX10_turnedFrom_29 : decode cX10_turnedFrom 29 = .ok (.aload_n 0, 1) := by decide +kernel
theorem dX10_turnedFrom_30 : decode cX10_turnedFrom 30 = .ok (.iload_n 2, 1) := by decide +kernel
theorem dX10_turnedFrom_31 : decode cX10_turnedFrom 31 = .ok (.aload_n 0, 1) := by decide +kernel
theorem dX10_turnedFrom_32 : decode cX10_turnedFrom 32 = .ok (.getfield 7, 3) := by decide +kernel
theorem dX10_turnedFrom_35 : decode cX10_turnedFrom 35 = .ok (.iconst 1, 1) := by decide +kernel
theorem dX10_turnedFrom_36 : decode cX10_turnedFrom 36 = .ok (.iaload, 1) := by decide +kernel
theorem dX10_turnedFrom_37 : decode cX10_turnedFrom 37 = .ok (.iconst 1, 1) := by decide +kernel
theorem dX10_turnedFrom_38 : decode cX10_turnedFrom 38 = .ok (.isub, 1) := by decide +kernel
theorem dX10_turnedFrom_39 : decode cX10_turnedFrom 39 = .ok (.iload_n 3, 1) := by decide +kernel
theorem dX10_turnedFrom_40 : decode cX10_turnedFrom 40 = .ok (.isub, 1) := by decide +kernel
theorem dX10_turnedFrom_41 : decode cX10_turnedFrom 41 = .ok (.invokevirtual 54, 3) := by decide +kernel
theorem dX10_turnedFrom_44 : decode cX10_turnedFrom 44 = .ok (.goto 23, 3) := by decide +kernel
theorem dX10_turnedFrom_47 : decode cX10_turnedFrom 47 = .ok (.iload_n 1, 1) := by decide +kernel
theorem dX10_turnedFrom_48 : decode cX10_turnedFrom 48 = .ok (.iconst 2, 1) := by decide +kernel
theorem dX10_turnedFrom_49 : decode cX10_turnedFrom 49 = .ok (.if_icmp .ne 12, 3) := by decide +kernel
theorem dX10_turnedFrom_52 : decode cX10_turnedFrom 52 = .ok (.aload_n 0, 1) := by decide +kernel
theorem dX10_turnedFrom_53 : decode cX10_turnedFrom 53 = .ok (.iload_n 3, 1) := by decide +kernel
theorem dX10_turnedFrom_54 : decode cX10_turnedFrom 54 = .ok (.iload_n 2, 1) := by decide +kernel
theorem dX10_turnedFrom_55 : decode cX10_turnedFrom 55 = .ok (.invokevirtual 54, 3) := by decide +kernel
theorem dX10_turnedFrom_58 : decode cX10_turnedFrom 58 = .ok (.goto 9, 3) := by decide +kernel
theorem dX10_turnedFrom_61 : decode cX10_turnedFrom 61 = .ok (.aload_n 0, 1) := by decide +kernel
theorem dX10_turnedFrom_62 : decode cX10_turnedFrom 62 = .ok (.iload_n 2, 1) := by decide +kernel
theorem dX10_turnedFrom_63 : decode cX10_turnedFrom 63 = .ok (.iload_n 3, 1) := by decide +kernel
theorem dX10_turnedFrom_64 : decode cX10_turnedFrom 64 = .ok (.invokevirtual 54, 3) := by decide +kernel
theorem dX10_turnedFrom_67 : decode cX10_turnedFrom 67 = .ok (.iadd, 1) := by decide +kernel
theorem dX10_turnedFrom_68 : decode cX10_turnedFrom 68 = .ok (.istore 4, 2) := by decide +kernel
theorem dX10_turnedFrom_70 : decode cX10_turnedFrom 70 = .ok (.aload_n 0, 1) := by decide +kernel
theorem dX10_turnedFrom_71 : decode cX10_turnedFrom 71 = .ok (.getfield 7, 3) := by decide +kernel
theorem dX10_turnedFrom_74 : decode cX10_turnedFrom 74 = .ok (.iload 4, 2) := by decide +kernel
theorem dX10_turnedFrom_76 : decode cX10_turnedFrom 76 = .ok (.iaload, 1) := by decide +kernel
theorem dX10_turnedFrom_77 : decode cX10_turnedFrom 77 = .ok (.sipush 256, 3) := by decide +kernel
theorem dX10_turnedFrom_80 : decode cX10_turnedFrom 80 = .ok (.irem, 1) := by decide +kernel
theorem dX10_turnedFrom_81 : decode cX10_turnedFrom 81 = .ok (.istore 5, 2) := by decide +kernel
theorem dX10_turnedFrom_83 : decode cX10_turnedFrom 83 = .ok (.iload_n 1, 1) := by decide +kernel
theorem dX10_turnedFrom_84 : decode cX10_turnedFrom 84 = .ok (.iconst 3, 1) := by decide +kernel
theorem dX10_turnedFrom_85 : decode cX10_turnedFrom 85 = .ok (.if_icmp .ne 23, 3) := by decide +kernel
theorem dX10_turnedFrom_88 : decode cX10_turnedFrom 88 = .ok (.aload_n 0, 1) := by decide +kernel
theorem dX10_turnedFrom_89 : decode cX10_turnedFrom 89 = .ok (.getfield 7, 3) := by decide +kernel
theorem dX10_turnedFrom_92 : decode cX10_turnedFrom 92 = .ok (.iload 4, 2) := by decide +kernel
theorem dX10_turnedFrom_94 : decode cX10_turnedFrom 94 = .ok (.iaload, 1) := by decide +kernel
theorem dX10_turnedFrom_95 : decode cX10_turnedFrom 95 = .ok (.iload 5, 2) := by decide +kernel
theorem dX10_turnedFrom_97 : decode cX10_turnedFrom 97 = .ok (.isub, 1) := by decide +kernel
theorem dX10_turnedFrom_98 : decode cX10_turnedFrom 98 = .ok (.sipush 255, 3) := by decide +kernel
theorem dX10_turnedFrom_101 : decode cX10_turnedFrom 101 = .ok (.iadd, 1) := by decide +kernel
theorem dX10_turnedFrom_102 : decode cX10_turnedFrom 102 = .ok (.iload 5, 2) := by decide +kernel
theorem dX10_turnedFrom_104 : decode cX10_turnedFrom 104 = .ok (.isub, 1) := by decide +kernel
theorem dX10_turnedFrom_105 : decode cX10_turnedFrom 105 = .ok (.goto 10, 3) := by decide +kernel
theorem dX10_turnedFrom_108 : decode cX10_turnedFrom 108 = .ok (.aload_n 0, 1) := by decide +kernel
theorem dX10_turnedFrom_109 : decode cX10_turnedFrom 109 = .ok (.getfield 7, 3) := by decide +kernel
theorem dX10_turnedFrom_112 : decode cX10_turnedFrom 112 = .ok (.iload 4, 2) := by decide +kernel
theorem dX10_turnedFrom_114 : decode cX10_turnedFrom 114 = .ok (.iaload, 1) := by decide +kernel
theorem dX10_turnedFrom_115 : decode cX10_turnedFrom 115 = .ok (.ireturn, 1) := by decide +kernel
theorem dX10_turn_0 : decode cX10_turn 0 = .ok (.iload_n 1, 1) := by decide +kernel
theorem dX10_turn_1 : decode cX10_turn 1 = .ok (.i2l, 1) := by decide +kernel
theorem dX10_turn_2 : decode cX10_turn 2 = .ok (.lconst 0, 1) := by decide +kernel
theorem dX10_turn_3 : decode cX10_turn 3 = .ok (.ldc2_w 193, 3) := by decide +kernel
theorem dX10_turn_6 : decode cX10_turn 6 = .ok (.invokestatic 58, 3) := by decide +kernel
theorem dX10_turn_9 : decode cX10_turn 9 = .ok (.ifCond .ne 6, 3) := by decide +kernel
theorem dX10_turn_12 : decode cX10_turn 12 = .ok (.ldc 110, 2) := by decide +kernel
theorem dX10_turn_14 : decode cX10_turn 14 = .ok (.ireturn, 1) := by decide +kernel
theorem dX10_turn_15 : decode cX10_turn 15 = .ok (.iload_n 1, 1) := by decide +kernel
theorem dX10_turn_16 : decode cX10_turn 16 = .ok (.iconst 2, 1) := by decide +kernel
theorem dX10_turn_17 : decode cX10_turn 17 = .ok (.if_icmp .ne 28, 3) := by decide +kernel
theorem dX10_turn_20 : decode cX10_turn 20 = .ok (.aload_n 0, 1) := by decide +kernel
theorem dX10_turn_21 : decode cX10_turn 21 = .ok (.getfield 7, 3) := by decide +kernel
theorem dX10_turn_24 : decode cX10_turn 24 = .ok (.iconst 0, 1) := by decide +kernel
theorem dX10_turn_25 : decode cX10_turn 25 = .ok (.iaload, 1) := by decide +kernel
theorem dX10_turn_26 : decode cX10_turn 26 = .ok (.bipush 8, 2) := by decide +kernel
theorem dX10_turn_28 : decode cX10_turn 28 = .ok (.if_icmp .gt 14, 3) := by decide +kernel
theorem dX10_turn_31 : decode cX10_turn 31 = .ok (.aload_n 0, 1) := by decide +kernel
theorem dX10_turn_32 : decode cX10_turn 32 = .ok (.getfield 7, 3) := by decide +kernel
theorem dX10_turn_35 : decode cX10_turn 35 = .ok (.iconst 1, 1) := by decide +kernel
theorem dX10_turn_36 : decode cX10_turn 36 = .ok (.iaload, 1) := by decide +kernel
theorem dX10_turn_37 : decode cX10_turn 37 = .ok (.bipush 10, 2) := by decide +kernel
theorem dX10_turn_39 : decode cX10_turn 39 = .ok (.if_icmp .le 6, 3) := by decide +kernel
theorem dX10_turn_42 : decode cX10_turn 42 = .ok (.ldc 195, 2) := by decide +kernel
theorem dX10_turn_44 : decode cX10_turn 44 = .ok (.ireturn, 1) := by decide +kernel
theorem dX10_turn_45 : decode cX10_turn 45 = .ok (.aload_n 0, 1) := by decide +kernel
theorem dX10_turn_46 : decode cX10_turn 46 = .ok (.invokevirtual 115, 3) := by decide +kernel
theorem dX10_turn_49 : decode cX10_turn 49 = .ok (.iload_n 1, 1) := by decide +kernel
theorem dX10_turn_50 : decode cX10_turn 50 = .ok (.iconst 2, 1) := by decide +kernel
theorem dX10_turn_51 : decode cX10_turn 51 = .ok (.if_icmp .ne 29, 3) := by decide +kernel
theorem dX10_turn_54 : decode cX10_turn 54 = .ok (.aload_n 0, 1) := by decide +kernel
theorem dX10_turn_55 : decode cX10_turn 55 = .ok (.getfield 7, 3) := by decide +kernel
theorem dX10_turn_58 : decode cX10_turn 58 = .ok (.iconst 0, 1) := by decide +kernel
theorem dX10_turn_59 : decode cX10_turn 59 = .ok (.iaload, 1) := by decide +kernel
theorem dX10_turn_60 : decode cX10_turn 60 = .ok (.istore_n 2, 1) := by decide +kernel
theorem dX10_turn_61 : decode cX10_turn 61 = .ok (.aload_n 0, 1) := by decide +kernel
theorem dX10_turn_62 : decode cX10_turn 62 = .ok (.getfield 7, 3) := by decide +kernel
theorem dX10_turn_65 : decode cX10_turn 65 = .ok (.iconst 0, 1) := by decide +kernel
theorem dX10_turn_66 : decode cX10_turn 66 = .ok (.aload_n 0, 1) := by decide +kernel
theorem dX10_turn_67 : decode cX10_turn 67 = .ok (.getfield 7, 3) := by decide +kernel
theorem dX10_turn_70 : decode cX10_turn 70 = .ok (.iconst 1, 1) := by decide +kernel
theorem dX10_turn_71 : decode cX10_turn 71 = .ok (.iaload, 1) := by decide +kernel
theorem dX10_turn_72 : decode cX10_turn 72 = .ok (.iastore, 1) := by decide +kernel
theorem dX10_turn_73 : decode cX10_turn 73 = .ok (.aload_n 0, 1) := by decide +kernel
theorem dX10_turn_74 : decode cX10_turn 74 = .ok (.getfield 7, 3) := by decide +kernel
theorem dX10_turn_77 : decode cX10_turn 77 = .ok (.iconst 1, 1) := by decide +kernel
theorem dX10_turn_78 : decode cX10_turn 78 = .ok (.iload_n 2, 1) := by decide +kernel
theorem dX10_turn_79 : decode cX10_turn 79 = .ok (.iastore, 1) := by decide +kernel
theorem dX10_turn_80 : decode cX10_turn 80 = .ok (.iconst 0, 1) := by decide +kernel
theorem dX10_turn_81 : decode cX10_turn 81 = .ok (.istore_n 2, 1) := by decide +kernel
theorem dX10_turn_82 : decode cX10_turn 82 = .ok (.iload_n 2, 1) := by decide +kernel
theorem dX10_turn_83 : decode cX10_turn 83 = .ok (.aload_n 0, 1) := by decide +kernel
theorem dX10_turn_84 : decode cX10_turn 84 = .ok (.getfield 7, 3) := by decide +kernel
theorem dX10_turn_87 : decode cX10_turn 87 = .ok (.iconst 1, 1) := by decide +kernel
theorem dX10_turn_88 : decode cX10_turn 88 = .ok (.iaload, 1) := by decide +kernel
theorem dX10_turn_89 : decode cX10_turn 89 = .ok (.if_icmp .ge 45, 3) := by decide +kernel
theorem dX10_turn_92 : decode cX10_turn 92 = .ok (.iconst 0, 1) := by decide +kernel
theorem dX10_turn_93 : decode cX10_turn 93 = .ok (.istore_n 3, 1) := by decide +kernel
theorem dX10_turn_94 : decode cX10_turn 94 = .ok (.iload_n 3, 1) := by decide +kernel
theorem dX10_turn_95 : decode cX10_turn 95 = .ok (.aload_n 0, 1) := by decide +kernel
theorem dX10_turn_96 : decode cX10_turn 96 = .ok (.getfield 7, 3) := by decide +kernel
theorem dX10_turn_99 : decode cX10_turn 99 = .ok (.iconst 0, 1) := by decide +kernel
theorem dX10_turn_100 : decode cX10_turn 100 = .ok (.iaload, 1) := by decide +kernel
theorem dX10_turn_101 : decode cX10_turn 101 = .ok (.if_icmp .ge 27, 3) := by decide +kernel
theorem dX10_turn_104 : decode cX10_turn 104 = .ok (.aload_n 0, 1) := by decide +kernel
theorem dX10_turn_105 : decode cX10_turn 105 = .ok (.getfield 7, 3) := by decide +kernel
theorem dX10_turn_108 : decode cX10_turn 108 = .ok (.aload_n 0, 1) := by decide +kernel
theorem dX10_turn_109 : decode cX10_turn 109 = .ok (.iload_n 3, 1) := by decide +kernel
theorem dX10_turn_110 : decode cX10_turn 110 = .ok (.iload_n 2, 1) := by decide +kernel
theorem dX10_turn_111 : decode cX10_turn 111 = .ok (.invokevirtual 54, 3) := by decide +kernel
theorem dX10_turn_114 : decode cX10_turn 114 = .ok (.aload_n 0, 1) := by decide +kernel
theorem dX10_turn_115 : decode cX10_turn 115 = .ok (.iload_n 1, 1) := by decide +kernel
theorem dX10_turn_116 : decode cX10_turn 116 = .ok (.iload_n 3, 1) := by decide +kernel
theorem dX10_turn_117 : decode cX10_turn 117 = .ok (.iload_n 2, 1) := by decide +kernel
theorem dX10_turn_118 : decode cX10_turn 118 = .ok (.invokevirtual 196, 3) := by decide +kernel
theorem dX10_turn_121 : decode cX10_turn 121 = .ok (.iastore, 1) := by decide +kernel
theorem dX10_turn_122 : decode cX10_turn 122 = .ok (.iinc 3 1, 3) := by decide +kernel
theorem dX10_turn_125 : decode cX10_turn 125 = .ok (.goto (-31), 3) := by decide +kernel
theorem dX10_turn_128 : decode cX10_turn 128 = .ok (.iinc 2 1, 3) := by decide +kernel
theorem dX10_turn_131 : decode cX10_turn 131 = .ok (.goto (-49), 3) := by decide +kernel
theorem dX10_turn_134 : decode cX10_turn 134 = .ok (.aload_n 0, 1) := by decide +kernel
theorem dX10_turn_135 : decode cX10_turn 135 = .ok (.getfield 7, 3) := by decide +kernel
theorem dX10_turn_138 : decode cX10_turn 138 = .ok (.iconst 0, 1) := by decide +kernel
theorem dX10_turn_139 : decode cX10_turn 139 = .ok (.iaload, 1) := by decide +kernel
theorem dX10_turn_140 : decode cX10_turn 140 = .ok (.ireturn, 1) := by decide +kernel
theorem dX10_filtered_0 : decode cX10_filtered 0 = .ok (.aload_n 0, 1) := by decide +kernel
theorem dX10_filtered_1 : decode cX10_filtered 1 = .ok (.iload_n 1, 1) := by decide +kernel
theorem dX10_filtered_2 : decode cX10_filtered 2 = .ok (.invokevirtual 186, 3) := by decide +kernel
theorem dX10_filtered_5 : decode cX10_filtered 5 = .ok (.ifCond .ne 6, 3) := by decide +kernel
theorem dX10_filtered_8 : decode cX10_filtered 8 = .ok (.ldc 175, 2) := by decide +kernel
theorem dX10_filtered_10 : decode cX10_filtered 10 = .ok (.ireturn, 1) := by decide +kernel
theorem dX10_filtered_11 : decode cX10_filtered 11 = .ok (.aload_n 0, 1) := by decide +kernel
theorem dX10_filtered_12 : decode cX10_filtered 12 = .ok (.invokevirtual 115, 3) := by decide +kernel
theorem dX10_filtered_15 : decode cX10_filtered 15 = .ok (.aload_n 0, 1) := by decide +kernel
theorem dX10_filtered_16 : decode cX10_filtered 16 = .ok (.iload_n 1, 1) := by decide +kernel
theorem dX10_filtered_17 : decode cX10_filtered 17 = .ok (.invokevirtual 199, 3) := by decide +kernel
theorem dX10_filtered_20 : decode cX10_filtered 20 = .ok (.ireturn, 1) := by decide +kernel
theorem dX10_all_0 : decode cX10_all 0 = .ok (.aload_n 0, 1) := by decide +kernel
theorem dX10_all_1 : decode cX10_all 1 = .ok (.getfield 20, 3) := by decide +kernel
theorem dX10_all_4 : decode cX10_all 4 = .ok (.iconst 0, 1) := by decide +kernel
theorem dX10_all_5 : decode cX10_all 5 = .ok (.iaload, 1) := by decide +kernel
theorem dX10_all_6 : decode cX10_all 6 = .ok (.ifCond .ne 6, 3) := by decide +kernel
theorem dX10_all_9 : decode cX10_all 9 = .ok (.ldc 195, 2) := by decide +kernel
theorem dX10_all_11 : decode cX10_all 11 = .ok (.ireturn, 1) := by decide +kernel
theorem dX10_all_12 : decode cX10_all 12 = .ok (.aload_n 0, 1) := by decide +kernel
theorem dX10_all_13 : decode cX10_all 13 = .ok (.invokevirtual 115, 3) := by decide +kernel
theorem dX10_all_16 : decode cX10_all 16 = .ok (.iconst 0, 1) := by decide +kernel
theorem dX10_all_17 : decode cX10_all 17 = .ok (.istore_n 1, 1) := by decide +kernel
theorem dX10_all_18 : decode cX10_all 18 = .ok (.iconst 0, 1) := by decide +kernel
theorem dX10_all_19 : decode cX10_all 19 = .ok (.istore_n 2, 1) := by decide +kernel
theorem dX10_all_20 : decode cX10_all 20 = .ok (.iload_n 2, 1) := by decide +kernel
theorem dX10_all_21 : decode cX10_all 21 = .ok (.aload_n 0, 1) := by decide +kernel
theorem dX10_all_22 : decode cX10_all 22 = .ok (.getfield 20, 3) := by decide +kernel
theorem dX10_all_25 : decode cX10_all 25 = .ok (.iconst 0, 1) := by decide +kernel
theorem dX10_all_26 : decode cX10_all 26 = .ok (.iaload, 1) := by decide +kernel
theorem dX10_all_27 : decode cX10_all 27 = .ok (.if_icmp .ge 17, 3) := by decide +kernel
theorem dX10_all_30 : decode cX10_all 30 = .ok (.iload_n 1, 1) := by decide +kernel
theorem dX10_all_31 : decode cX10_all 31 = .ok (.aload_n 0, 1) := by decide +kernel
theorem dX10_all_32 : decode cX10_all 32 = .ok (.iload_n 2, 1) := by decide +kernel
theorem dX10_all_33 : decode cX10_all 33 = .ok (.invokevirtual 199, 3) := by decide +kernel
theorem dX10_all_36 : decode cX10_all 36 = .ok (.iadd, 1) := by decide +kernel
theorem dX10_all_37 : decode cX10_all 37 = .ok (.istore_n 1, 1) := by decide +kernel
theorem dX10_all_38 : decode cX10_all 38 = .ok (.iinc 2 1, 3) := by decide +kernel
theorem dX10_all_41 : decode cX10_all 41 = .ok (.goto (-21), 3) := by decide +kernel
theorem dX10_all_44 : decode cX10_all 44 = .ok (.iconst 0, 1) := by decide +kernel
theorem dX10_all_45 : decode cX10_all 45 = .ok (.istore_n 2, 1) := by decide +kernel
theorem dX10_all_46 : decode cX10_all 46 = .ok (.iconst 2, 1) := by decide +kernel
theorem dX10_all_47 : decode cX10_all 47 = .ok (.istore_n 3, 1) := by decide +kernel
theorem dX10_all_48 : decode cX10_all 48 = .ok (.iload_n 3, 1) := by decide +kernel
theorem dX10_all_49 : decode cX10_all 49 = .ok (.bipush 82, 2) := by decide +kernel
theorem dX10_all_51 : decode cX10_all 51 = .ok (.if_icmp .ge 81, 3) := by decide +kernel
theorem dX10_all_54 : decode cX10_all 54 = .ok (.iload_n 1, 1) := by decide +kernel
theorem dX10_all_55 : decode cX10_all 55 = .ok (.ifCond .le 77, 3) := by decide +kernel
theorem dX10_all_58 : decode cX10_all 58 = .ok (.iload_n 3, 1) := by decide +kernel
theorem dX10_all_59 : decode cX10_all 59 = .ok (.iconst 2, 1) := by decide +kernel
theorem dX10_all_60 : decode cX10_all 60 = .ok (.isub, 1) := by decide +kernel
theorem dX10_all_61 : decode cX10_all 61 = .ok (.bipush 10, 2) := by decide +kernel
theorem dX10_all_63 : decode cX10_all 63 = .ok (.irem, 1) := by decide +kernel
theorem dX10_all_64 : decode cX10_all 64 = .ok (.aload_n 0, 1) := by decide +kernel
theorem dX10_all_65 : decode cX10_all 65 = .ok (.getfield 7, 3) := by decide +kernel
theorem dX10_all_68 : decode cX10_all 68 = .ok (.iconst 0, 1) := by decide +kernel
theorem dX10_all_69 : decode cX10_all 69 = .ok (.iaload, 1) := by decide +kernel
theorem dX10_all_70 : decode cX10_all 70 = .ok (.if_icmp .ge 22, 3) := by decide +kernel
theorem dX10_all_73 : decode cX10_all 73 = .ok (.iload_n 3, 1) := by decide +kernel
theorem dX10_all_74 : decode cX10_all 74 = .ok (.iconst 2, 1) := by decide +kernel
theorem dX10_all_75 : decode cX10_all 75 = .ok (.isub, 1) := by decide +kernel
theorem dX10_all_76 : decode cX10_all 76 = .ok (.bipush 10, 2) := by decide +kernel
theorem dX10_all_78 : decode cX10_all 78 = .ok (.idiv, 1) := by decide +kernel
theorem dX10_all_79 : decode cX10_all 79 = .ok (.aload_n 0, 1) := by decide +kernel
theorem dX10_all_80 : decode cX10_all 80 = .ok (.getfield 7, 3) := by decide +kernel
theorem dX10_all_83 : decode cX10_all 83 = .ok (.iconst 1, 1) := by decide +kernel
theorem dX10_all_84 : decode cX10_all 84 = .ok (.iaload, 1) := by decide +kernel
theorem dX10_all_85 : decode cX10_all 85 = .ok (.if_icmp .ge 7, 3) := by decide +kernel
theorem dX10_all_88 : decode cX10_all 88 = .ok (.iconst 1, 1) := by decide +kernel
theorem dX10_all_89 : decode cX10_all 89 = .ok (.goto 4, 3) := by decide +kernel
theorem dX10_all_92 : decode cX10_all 92 = .ok (.iconst 0, 1) := by decide +kernel
theorem dX10_all_93 : decode cX10_all 93 = .ok (.istore 4, 2) := by decide +kernel
theorem dX10_all_95 : decode cX10_all 95 = .ok (.iload_n 2, 1) := by decide +kernel
theorem dX10_all_96 : decode cX10_all 96 = .ok (.iload 4, 2) := by decide +kernel
theorem dX10_all_98 : decode cX10_all 98 = .ok (.ifCond .eq 25, 3) := by decide +kernel
theorem dX10_all_101 : decode cX10_all 101 = .ok (.aload_n 0, 1) := by decide +kernel
theorem dX10_all_102 : decode cX10_all 102 = .ok (.getfield 7, 3) := by decide +kernel
theorem dX10_all_105 : decode cX10_all 105 = .ok (.iload_n 3, 1) := by decide +kernel
theorem dX10_all_106 : decode cX10_all 106 = .ok (.iaload, 1) := by decide +kernel
theorem dX10_all_107 : decode cX10_all 107 = .ok (.aload_n 0, 1) := by decide +kernel
theorem dX10_all_108 : decode cX10_all 108 = .ok (.getfield 7, 3) := by decide +kernel
theorem dX10_all_111 : decode cX10_all 111 = .ok (.bipush 82, 2) := by decide +kernel
theorem dX10_all_113 : decode cX10_all 113 = .ok (.iload_n 3, 1) := by decide +kernel
theorem dX10_all_114 : decode cX10_all 114 = .ok (.iadd, 1) := by decide +kernel
theorem dX10_all_115 : decode cX10_all 115 = .ok (.iaload, 1) := by decide +kernel
theorem dX10_all_116 : decode cX10_all 116 = .ok (.if_icmp .eq 7, 3) := by decide +kernel
theorem dX10_all_119 : decode cX10_all 119 = .ok (.iconst 1, 1) := by decide +kernel
theorem dX10_all_120 : decode cX10_all 120 = .ok (.goto 4, 3) := by decide +kernel
theorem dX10_all_123 : decode cX10_all 123 = .ok (.iconst 0, 1) := by decide +kernel
theorem dX10_all_124 : decode cX10_all 124 = .ok (.iadd, 1) := by decide +kernel
theorem dX10_all_125 : decode cX10_all 125 = .ok (.istore_n 2, 1) := by decide +kernel
theorem dX10_all_126 : decode cX10_all 126 = .ok (.iinc 3 1, 3) := by decide +kernel
theorem dX10_all_129 : decode cX10_all 129 = .ok (.goto (-81), 3) := by decide +kernel
theorem dX10_all_132 : decode cX10_all 132 = .ok (.iload_n 2, 1) := by decide +kernel
theorem dX10_all_133 : decode cX10_all 133 = .ok (.ireturn, 1) := by decide +kernel
theorem dX10_until_0 : decode cX10_until 0 = .ok (.aload_n 0, 1) := by decide +kernel
theorem dX10_until_1 : decode cX10_until 1 = .ok (.iload_n 1, 1) := by decide +kernel
theorem dX10_until_2 : decode cX10_until 2 = .ok (.invokevirtual 186, 3) := by decide +kernel
theorem dX10_until_5 : decode cX10_until 5 = .ok (.ifCond .ne 6, 3) := by decide +kernel
theorem dX10_until_8 : decode cX10_until 8 = .ok (.ldc 175, 2) := by decide +kernel
theorem dX10_until_10 : decode cX10_until 10 = .ok (.ireturn, 1) := by decide +kernel
theorem dX10_until_11 : decode cX10_until 11 = .ok (.iload_n 2, 1) := by decide +kernel
theorem dX10_until_12 : decode cX10_until 12 = .ok (.i2l, 1) := by decide +kernel
theorem dX10_until_13 : decode cX10_until 13 = .ok (.lconst 1, 1) := by decide +kernel
theorem dX10_until_14 : decode cX10_until 14 = .ok (.ldc2_w 202, 3) := by decide +kernel
theorem dX10_until_17 : decode cX10_until 17 = .ok (.invokestatic 58, 3) := by decide +kernel
theorem dX10_until_20 : decode cX10_until 20 = .ok (.ifCond .ne 6, 3) := by decide +kernel
theorem dX10_until_23 : decode cX10_until 23 = .ok (.ldc 110, 2) := by decide +kernel
theorem dX10_until_25 : decode cX10_until 25 = .ok (.ireturn, 1) := by decide +kernel
theorem dX10_until_26 : decode cX10_until 26 = .ok (.aload_n 0, 1) := by decide +kernel
theorem dX10_until_27 : decode cX10_until 27 = .ok (.invokevirtual 115, 3) := by decide +kernel
theorem dX10_until_30 : decode cX10_until 30 = .ok (.iconst 0, 1) := by decide +kernel
theorem dX10_until_31 : decode cX10_until 31 = .ok (.istore_n 3, 1) := by decide +kernel
theorem dX10_until_32 : decode cX10_until 32 = .ok (.iload_n 3, 1) := by decide +kernel
theorem dX10_until_33 : decode cX10_until 33 = .ok (.iload_n 2, 1) := by decide +kernel
theorem dX10_until_34 : decode cX10_until 34 = .ok (.if_icmp .ge 17, 3) := by decide +kernel
theorem dX10_until_37 : decode cX10_until 37 = .ok (.aload_n 0, 1) := by decide +kernel
theorem dX10_until_38 : decode cX10_until 38 = .ok (.iload_n 1, 1) := by decide +kernel
theorem dX10_until_39 : decode cX10_until 39 = .ok (.invokevirtual 199, 3) := by decide +kernel
theorem dX10_until_42 : decode cX10_until 42 = .ok (.ifCond .le 9, 3) := by decide +kernel
theorem dX10_until_45 : decode cX10_until 45 = .ok (.iinc 3 1, 3) := by decide +kernel
theorem dX10_until_48 : decode cX10_until 48 = .ok (.goto (-16), 3) := by decide +kernel
theorem dX10_until_51 : decode cX10_until 51 = .ok (.iload_n 3, 1) := by decide +kernel
theorem dX10_until_52 : decode cX10_until 52 = .ok (.ireturn, 1) := by decide +kernel
theorem dX10_draw_0 : decode cX10_draw 0 = .ok (.aload_n 0, 1) := by decide +kernel
theorem dX10_draw_1 : decode cX10_draw 1 = .ok (.aload_n 0, 1) := by decide +kernel
theorem dX10_draw_2 : decode cX10_draw 2 = .ok (.getfield 204, 3) := by decide +kernel
theorem dX10_draw_5 : decode cX10_draw 5 = .ok (.i2l, 1) := by decide +kernel
theorem dX10_draw_6 : decode cX10_draw 6 = .ok (.ldc2_w 207, 3) := by decide +kernel
theorem dX10_draw_9 : decode cX10_draw 9 = .ok (.lmul, 1) := by decide +kernel
theorem dX10_draw_10 : decode cX10_draw 10 = .ok (.ldc2_w 209, 3) := by decide +kernel
theorem dX10_draw_13 : decode cX10_draw 13 = .ok (.ladd, 1) := by decide +kernel
theorem dX10_draw_14 : decode cX10_draw 14 = .ok (.ldc2_w 211, 3) := by decide +kernel
theorem dX10_draw_17 : decode cX10_draw 17 = .ok (.lrem, 1) := by decide +kernel
theorem dX10_draw_18 : decode cX10_draw 18 = .ok (.l2i, 1) := by decide +kernel
theorem dX10_draw_19 : decode cX10_draw 19 = .ok (.putfield 204, 3) := by decide +kernel
theorem dX10_draw_22 : decode cX10_draw 22 = .ok (.aload_n 0, 1) := by decide +kernel
theorem dX10_draw_23 : decode cX10_draw 23 = .ok (.getfield 204, 3) := by decide +kernel
theorem dX10_draw_26 : decode cX10_draw 26 = .ok (.ldc 213, 2) := by decide +kernel
theorem dX10_draw_28 : decode cX10_draw 28 = .ok (.idiv, 1) := by decide +kernel
theorem dX10_draw_29 : decode cX10_draw 29 = .ok (.iload_n 1, 1) := by decide +kernel
theorem dX10_draw_30 : decode cX10_draw 30 = .ok (.irem, 1) := by decide +kernel
theorem dX10_draw_31 : decode cX10_draw 31 = .ok (.ireturn, 1) := by decide +kernel
theorem dX10_noise_0 : decode cX10_noise 0 = .ok (.iload_n 1, 1) := by decide +kernel
theorem dX10_noise_1 : decode cX10_noise 1 = .ok (.i2l, 1) := by decide +kernel
theorem dX10_noise_2 : decode cX10_noise 2 = .ok (.lconst 1, 1) := by decide +kernel
theorem dX10_noise_3 : decode cX10_noise 3 = .ok (.ldc2_w 214, 3) := by decide +kernel
theorem dX10_noise_6 : decode cX10_noise 6 = .ok (.invokestatic 58, 3) := by decide +kernel
theorem dX10_noise_9 : decode cX10_noise 9 = .ok (.ifCond .ne 6, 3) := by decide +kernel
theorem dX10_noise_12 : decode cX10_noise 12 = .ok (.ldc 110, 2) := by decide +kernel
theorem dX10_noise_14 : decode cX10_noise 14 = .ok (.ireturn, 1) := by decide +kernel
theorem dX10_noise_15 : decode cX10_noise 15 = .ok (.iconst 0, 1) := by decide +kernel
theorem dX10_noise_16 : decode cX10_noise 16 = .ok (.istore_n 2, 1) := by decide +kernel
theorem dX10_noise_17 : decode cX10_noise 17 = .ok (.iload_n 2, 1) := by decide +kernel
theorem dX10_noise_18 : decode cX10_noise 18 = .ok (.iload_n 1, 1) := by decide +kernel
theorem dX10_noise_19 : decode cX10_noise 19 = .ok (.if_icmp .ge 78, 3) := by decide +kernel
theorem dX10_noise_22 : decode cX10_noise 22 = .ok (.aload_n 0, 1) := by decide +kernel
theorem dX10_noise_23 : decode cX10_noise 23 = .ok (.invokevirtual 115, 3) := by decide +kernel
theorem dX10_noise_26 : decode cX10_noise 26 = .ok (.aload_n 0, 1) := by decide +kernel
theorem dX10_noise_27 : decode cX10_noise 27 = .ok (.aload_n 0, 1) := by decide +kernel
theorem dX10_noise_28 : decode cX10_noise 28 = .ok (.getfield 7, 3) := by decide +kernel
theorem dX10_noise_31 : decode cX10_noise 31 = .ok (.iconst 0, 1) := by decide +kernel
theorem dX10_noise_32 : decode cX10_noise 32 = .ok (.iaload, 1) := by decide +kernel
theorem dX10_noise_33 : decode cX10_noise 33 = .ok (.invokevirtual 216, 3) := by decide +kernel
theorem dX10_noise_36 : decode cX10_noise 36 = .ok (.istore_n 3, 1) := by decide +kernel
theorem dX10_noise_37 : decode cX10_noise 37 = .ok (.aload_n 0, 1) := by decide +kernel
theorem dX10_noise_38 : decode cX10_noise 38 = .ok (.aload_n 0, 1) := by decide +kernel
theorem dX10_noise_39 : decode cX10_noise 39 = .ok (.getfield 7, 3) := by decide +kernel
theorem dX10_noise_42 : decode cX10_noise 42 = .ok (.iconst 1, 1) := by decide +kernel
theorem dX10_noise_43 : decode cX10_noise 43 = .ok (.iaload, 1) := by decide +kernel
theorem dX10_noise_44 : decode cX10_noise 44 = .ok (.invokevirtual 216, 3) := by decide +kernel
theorem dX10_noise_47 : decode cX10_noise 47 = .ok (.istore 4, 2) := by decide +kernel
theorem dX10_noise_49 : decode cX10_noise 49 = .ok (.aload_n 0, 1) := by decide +kernel
theorem dX10_noise_50 : decode cX10_noise 50 = .ok (.iconst 3, 1) := by decide +kernel
theorem dX10_noise_51 : decode cX10_noise 51 = .ok (.invokevirtual 216, 3) := by decide +kernel
theorem dX10_noise_54 : decode cX10_noise 54 = .ok (.istore 5, 2) := by decide +kernel
theorem dX10_noise_56 : decode cX10_noise 56 = .ok (.aload_n 0, 1) := by decide +kernel
theorem dX10_noise_57 : decode cX10_noise 57 = .ok (.iload_n 3, 1) := by decide +kernel
theorem dX10_noise_58 : decode cX10_noise 58 = .ok (.iload 4, 2) := by decide +kernel
theorem dX10_noise_60 : decode cX10_noise 60 = .ok (.iload 5, 2) := by decide +kernel
theorem dX10_noise_62 : decode cX10_noise 62 = .ok (.ifCond .ne 7, 3) := by decide +kernel
theorem dX10_noise_65 : decode cX10_noise 65 = .ok (.iconst 0, 1) := by decide +kernel
theorem dX10_noise_66 : decode cX10_noise 66 = .ok (.goto 22, 3) := by decide +kernel
theorem dX10_noise_69 : decode cX10_noise 69 = .ok (.iload 5, 2) := by decide +kernel
theorem dX10_noise_71 : decode cX10_noise 71 = .ok (.iconst 1, 1) := by decide +kernel
theorem dX10_noise_72 : decode cX10_noise 72 = .ok (.if_icmp .ne 9, 3) := by decide +kernel
theorem dX10_noise_75 : decode cX10_noise 75 = .ok (.sipush 255, 3) := by decide +kernel
theorem dX10_noise_78 : decode cX10_noise 78 = .ok (.goto 10, 3) := by decide +kernel
theorem dX10_noise_81 : decode cX10_noise 81 = .ok (.aload_n 0, 1) := by decide +kernel
theorem dX10_noise_82 : decode cX10_noise 82 = .ok (.sipush 256, 3) := by decide +kernel
theorem dX10_noise_85 : decode cX10_noise 85 = .ok (.invokevirtual 216, 3) := by decide +kernel
theorem dX10_noise_88 : decode cX10_noise 88 = .ok (.invokevirtual 160, 3) := by decide +kernel
theorem dX10_noise_91 : decode cX10_noise 91 = .ok (.iinc 2 1, 3) := by decide +kernel
theorem dX10_noise_94 : decode cX10_noise 94 = .ok (.goto (-77), 3) := by decide +kernel
theorem dX10_noise_97 : decode cX10_noise 97 = .ok (.aload_n 0, 1) := by decide +kernel
theorem dX10_noise_98 : decode cX10_noise 98 = .ok (.getfield 204, 3) := by decide +kernel
theorem dX10_noise_101 : decode cX10_noise 101 = .ok (.ireturn, 1) := by decide +kernel
theorem dX10_undo_0 : decode cX10_undo 0 = .ok (.iload_n 1, 1) := by decide +kernel
theorem dX10_undo_1 : decode cX10_undo 1 = .ok (.i2l, 1) := by decide +kernel
theorem dX10_undo_2 : decode cX10_undo 2 = .ok (.lconst 1, 1) := by decide +kernel
theorem dX10_undo_3 : decode cX10_undo 3 = .ok (.ldc2_w 219, 3) := by decide +kernel
theorem dX10_undo_6 : decode cX10_undo 6 = .ok (.invokestatic 58, 3) := by decide +kernel
theorem dX10_undo_9 : decode cX10_undo 9 = .ok (.ifCond .ne 6, 3) := by decide +kernel
theorem dX10_undo_12 : decode cX10_undo 12 = .ok (.ldc 110, 2) := by decide +kernel
theorem dX10_undo_14 : decode cX10_undo 14 = .ok (.ireturn, 1) := by decide +kernel
theorem dX10_undo_15 : decode cX10_undo 15 = .ok (.iload_n 1, 1) := by decide +kernel
theorem dX10_undo_16 : decode cX10_undo 16 = .ok (.aload_n 0, 1) := by decide +kernel
theorem dX10_undo_17 : decode cX10_undo 17 = .ok (.getfield 51, 3) := by decide +kernel
theorem dX10_undo_20 : decode cX10_undo 20 = .ok (.if_icmp .le 6, 3) := by decide +kernel
theorem dX10_undo_23 : decode cX10_undo 23 = .ok (.ldc 195, 2) := by decide +kernel
theorem dX10_undo_25 : decode cX10_undo 25 = .ok (.ireturn, 1) := by decide +kernel
theorem dX10_undo_26 : decode cX10_undo 26 = .ok (.iconst 0, 1) := by decide +kernel
theorem dX10_undo_27 : decode cX10_undo 27 = .ok (.istore_n 2, 1) := by decide +kernel
theorem dX10_undo_28 : decode cX10_undo 28 = .ok (.iload_n 2, 1) := by decide +kernel
theorem dX10_undo_29 : decode cX10_undo 29 = .ok (.iload_n 1, 1) := by decide +kernel
theorem dX10_undo_30 : decode cX10_undo 30 = .ok (.iadd, 1) := by decide +kernel
theorem dX10_undo_31 : decode cX10_undo 31 = .ok (.bipush 16, 2) := by decide +kernel
theorem dX10_undo_33 : decode cX10_undo 33 = .ok (.if_icmp .gt 23, 3) := by decide +kernel
theorem dX10_undo_36 : decode cX10_undo 36 = .ok (.aload_n 0, 1) := by decide +kernel
theorem dX10_undo_37 : decode cX10_undo 37 = .ok (.bipush 82, 2) := by decide +kernel
theorem dX10_undo_39 : decode cX10_undo 39 = .ok (.iload_n 2, 1) := by decide +kernel
theorem dX10_undo_40 : decode cX10_undo 40 = .ok (.iload_n 1, 1) := by decide +kernel
theorem dX10_undo_41 : decode cX10_undo 41 = .ok (.iadd, 1) := by decide +kernel
theorem dX10_undo_42 : decode cX10_undo 42 = .ok (.imul, 1) := by decide +kernel
theorem dX10_undo_43 : decode cX10_undo 43 = .ok (.bipush 82, 2) := by decide +kernel
theorem dX10_undo_45 : decode cX10_undo 45 = .ok (.iload_n 2, 1) := by decide +kernel
theorem dX10_undo_46 : decode cX10_undo 46 = .ok (.imul, 1) := by decide +kernel
theorem dX10_undo_47 : decode cX10_undo 47 = .ok (.invokevirtual 47, 3) := by decide +kernel
theorem dX10_undo_50 : decode cX10_undo 50 = .ok (.iinc 2 1, 3) := by decide +kernel
theorem dX10_undo_53 : decode cX10_undo 53 = .ok (.goto (-25), 3) := by decide +kernel
theorem dX10_undo_56 : decode cX10_undo 56 = .ok (.aload_n 0, 1) := by decide +kernel
theorem dX10_undo_57 : decode cX10_undo 57 = .ok (.dup, 1) := by decide +kernel
theorem dX10_undo_58 : decode cX10_undo 58 = .ok (.getfield 51, 3) := by decide +kernel
theorem dX10_undo_61 : decode cX10_undo 61 = .ok (.iload_n 1, 1) := by decide +kernel
theorem dX10_undo_62 : decode cX10_undo 62 = .ok (.isub, 1) := by decide +kernel
theorem dX10_undo_63 : decode cX10_undo 63 = .ok (.putfield 51, 3) := by decide +kernel
theorem dX10_undo_66 : decode cX10_undo 66 = .ok (.aload_n 0, 1) := by decide +kernel
theorem dX10_undo_67 : decode cX10_undo 67 = .ok (.getfield 51, 3) := by decide +kernel
theorem dX10_undo_70 : decode cX10_undo 70 = .ok (.ireturn, 1) := by decide +kernel
theorem dX10_write_0 : decode cX10_write 0 = .ok (.aload_n 0, 1) := by decide +kernel
theorem dX10_write_1 : decode cX10_write 1 = .ok (.iload_n 1, 1) := by decide +kernel
theorem dX10_write_2 : decode cX10_write 2 = .ok (.iload_n 2, 1) := by decide +kernel
theorem dX10_write_3 : decode cX10_write 3 = .ok (.invokevirtual 140, 3) := by decide +kernel
theorem dX10_write_6 : decode cX10_write 6 = .ok (.ifCond .ne 6, 3) := by decide +kernel
theorem dX10_write_9 : decode cX10_write 9 = .ok (.ldc 175, 2) := by decide +kernel
theorem dX10_write_11 : decode cX10_write 11 = .ok (.ireturn, 1) := by decide +kernel
theorem dX10_write_12 : decode cX10_write 12 = .ok (.aload_n 0, 1) := by decide +kernel
theorem dX10_write_13 : decode cX10_write 13 = .ok (.getfield 163, 3) := by decide +kernel
theorem dX10_write_16 : decode cX10_write 16 = .ok (.bipush 20, 2) := by decide +kernel
theorem dX10_write_18 : decode cX10_write 18 = .ok (.if_icmp .ne 6, 3) := by decide +kernel
theorem dX10_write_21 : decode cX10_write 21 = .ok (.ldc 111, 2) := by decide +kernel
theorem dX10_write_23 : decode cX10_write 23 = .ok (.ireturn, 1) := by decide +kernel
theorem dX10_write_24 : decode cX10_write 24 = .ok (.aload_n 0, 1) := by decide +kernel
theorem dX10_write_25 : decode cX10_write 25 = .ok (.getfield 32, 3) := by decide +kernel
theorem dX10_write_28 : decode cX10_write 28 = .ok (.aload_n 0, 1) := by decide +kernel
theorem dX10_write_29 : decode cX10_write 29 = .ok (.getfield 163, 3) := by decide +kernel
theorem dX10_write_32 : decode cX10_write 32 = .ok (.iload_n 1, 1) := by decide +kernel
theorem dX10_write_33 : decode cX10_write 33 = .ok (.iastore, 1) := by decide +kernel
theorem dX10_write_34 : decode cX10_write 34 = .ok (.aload_n 0, 1) := by decide +kernel
theorem dX10_write_35 : decode cX10_write 35 = .ok (.getfield 35, 3) := by decide +kernel
theorem dX10_write_38 : decode cX10_write 38 = .ok (.aload_n 0, 1) := by decide +kernel
theorem dX10_write_39 : decode cX10_write 39 = .ok (.getfield 163, 3) := by decide +kernel
theorem dX10_write_42 : decode cX10_write 42 = .ok (.iload_n 2, 1) := by decide +kernel
theorem dX10_write_43 : decode cX10_write 43 = .ok (.iastore, 1) := by decide +kernel
theorem dX10_write_44 : decode cX10_write 44 = .ok (.aload_n 0, 1) := by decide +kernel
theorem dX10_write_45 : decode cX10_write 45 = .ok (.getfield 38, 3) := by decide +kernel
theorem dX10_write_48 : decode cX10_write 48 = .ok (.aload_n 0, 1) := by decide +kernel
theorem dX10_write_49 : decode cX10_write 49 = .ok (.getfield 163, 3) := by decide +kernel
theorem dX10_write_52 : decode cX10_write 52 = .ok (.iload_n 3, 1) := by decide +kernel
theorem dX10_write_53 : decode cX10_write 53 = .ok (.iastore, 1) := by decide +kernel
theorem dX10_write_54 : decode cX10_write 54 = .ok (.aload_n 0, 1) := by decide +kernel
theorem dX10_write_55 : decode cX10_write 55 = .ok (.dup, 1) := by decide +kernel
theorem dX10_write_56 : decode cX10_write 56 = .ok (.getfield 163, 3) := by decide +kernel
theorem dX10_write_59 : decode cX10_write 59 = .ok (.iconst 1, 1) := by decide +kernel
theorem dX10_write_60 : decode cX10_write 60 = .ok (.iadd, 1) := by decide +kernel
theorem dX10_write_61 : decode cX10_write 61 = .ok (.putfield 163, 3) := by decide +kernel
theorem dX10_write_64 : decode cX10_write 64 = .ok (.aload_n 0, 1) := by decide +kernel
theorem dX10_write_65 : decode cX10_write 65 = .ok (.getfield 163, 3) := by decide +kernel
theorem dX10_write_68 : decode cX10_write 68 = .ok (.ireturn, 1) := by decide +kernel
theorem dX10_tear_0 : decode cX10_tear 0 = .ok (.aload_n 0, 1) := by decide +kernel
theorem dX10_tear_1 : decode cX10_tear 1 = .ok (.getfield 163, 3) := by decide +kernel
theorem dX10_tear_4 : decode cX10_tear 4 = .ok (.istore_n 1, 1) := by decide +kernel
theorem dX10_tear_5 : decode cX10_tear 5 = .ok (.aload_n 0, 1) := by decide +kernel
theorem dX10_tear_6 : decode cX10_tear 6 = .ok (.iconst 0, 1) := by decide +kernel
theorem dX10_tear_7 : decode cX10_tear 7 = .ok (.putfield 163, 3) := by decide +kernel
theorem dX10_tear_10 : decode cX10_tear 10 = .ok (.iload_n 1, 1) := by decide +kernel
theorem dX10_tear_11 : decode cX10_tear 11 = .ok (.ireturn, 1) := by decide +kernel
theorem dX10_seed_0 : decode cX10_seed 0 = .ok (.iload_n 1, 1) := by decide +kernel
theorem dX10_seed_1 : decode cX10_seed 1 = .ok (.ifCond .ge 6, 3) := by decide +kernel
theorem dX10_seed_4 : decode cX10_seed 4 = .ok (.ldc 110, 2) := by decide +kernel
theorem dX10_seed_6 : decode cX10_seed 6 = .ok (.ireturn, 1) := by decide +kernel
theorem dX10_seed_7 : decode cX10_seed 7 = .ok (.aload_n 0, 1) := by decide +kernel
theorem dX10_seed_8 : decode cX10_seed 8 = .ok (.getfield 204, 3) := by decide +kernel
theorem dX10_seed_11 : decode cX10_seed 11 = .ok (.istore_n 2, 1) := by decide +kernel
theorem dX10_seed_12 : decode cX10_seed 12 = .ok (.aload_n 0, 1) := by decide +kernel
theorem dX10_seed_13 : decode cX10_seed 13 = .ok (.iload_n 1, 1) := by decide +kernel
theorem dX10_seed_14 : decode cX10_seed 14 = .ok (.putfield 204, 3) := by decide +kernel
theorem dX10_seed_17 : decode cX10_seed 17 = .ok (.iload_n 2, 1) := by decide +kernel
theorem dX10_seed_18 : decode cX10_seed 18 = .ok (.ireturn, 1) := by decide +kernel
theorem dX10_isKept_0 : decode cX10_isKept 0 = .ok (.aload_n 0, 1) := by decide +kernel
theorem dX10_isKept_1 : decode cX10_isKept 1 = .ok (.getfield 221, 3) := by decide +kernel
theorem dX10_isKept_4 : decode cX10_isKept 4 = .ok (.iload_n 1, 1) := by decide +kernel
theorem dX10_isKept_5 : decode cX10_isKept 5 = .ok (.ishr, 1) := by decide +kernel
theorem dX10_isKept_6 : decode cX10_isKept 6 = .ok (.iconst 1, 1) := by decide +kernel
theorem dX10_isKept_7 : decode cX10_isKept 7 = .ok (.iand, 1) := by decide +kernel
theorem dX10_isKept_8 : decode cX10_isKept 8 = .ok (.iconst 1, 1) := by decide +kernel
theorem dX10_isKept_9 : decode cX10_isKept 9 = .ok (.if_icmp .ne 7, 3) := by decide +kernel
theorem dX10_isKept_12 : decode cX10_isKept 12 = .ok (.iconst 1, 1) := by decide +kernel
theorem dX10_isKept_13 : decode cX10_isKept 13 = .ok (.goto 4, 3) := by decide +kernel
theorem dX10_isKept_16 : decode cX10_isKept 16 = .ok (.iconst 0, 1) := by decide +kernel
theorem dX10_isKept_17 : decode cX10_isKept 17 = .ok (.ireturn, 1) := by decide +kernel
theorem dX10_keep_0 : decode cX10_keep 0 = .ok (.iload_n 1, 1) := by decide +kernel
theorem dX10_keep_1 : decode cX10_keep 1 = .ok (.i2l, 1) := by decide +kernel
theorem dX10_keep_2 : decode cX10_keep 2 = .ok (.lconst 0, 1) := by decide +kernel
theorem dX10_keep_3 : decode cX10_keep 3 = .ok (.lconst 1, 1) := by decide +kernel
theorem dX10_keep_4 : decode cX10_keep 4 = .ok (.invokestatic 58, 3) := by decide +kernel
theorem dX10_keep_7 : decode cX10_keep 7 = .ok (.ifCond .ne 6, 3) := by decide +kernel
theorem dX10_keep_10 : decode cX10_keep 10 = .ok (.ldc 175, 2) := by decide +kernel
theorem dX10_keep_12 : decode cX10_keep 12 = .ok (.ireturn, 1) := by decide +kernel
theorem dX10_keep_13 : decode cX10_keep 13 = .ok (.aload_n 0, 1) := by decide +kernel
theorem dX10_keep_14 : decode cX10_keep 14 = .ok (.iconst 0, 1) := by decide +kernel
theorem dX10_keep_15 : decode cX10_keep 15 = .ok (.sipush 1394, 3) := by decide +kernel
theorem dX10_keep_18 : decode cX10_keep 18 = .ok (.bipush 82, 2) := by decide +kernel
theorem dX10_keep_20 : decode cX10_keep 20 = .ok (.iload_n 1, 1) := by decide +kernel
theorem dX10_keep_21 : decode cX10_keep 21 = .ok (.imul, 1) := by decide +kernel
theorem dX10_keep_22 : decode cX10_keep 22 = .ok (.iadd, 1) := by decide +kernel
theorem dX10_keep_23 : decode cX10_keep 23 = .ok (.invokevirtual 47, 3) := by decide +kernel
theorem dX10_keep_26 : decode cX10_keep 26 = .ok (.iconst 0, 1) := by decide +kernel
theorem dX10_keep_27 : decode cX10_keep 27 = .ok (.istore_n 2, 1) := by decide +kernel
theorem dX10_keep_28 : decode cX10_keep 28 = .ok (.iload_n 2, 1) := by decide +kernel
theorem dX10_keep_29 : decode cX10_keep 29 = .ok (.bipush 31, 2) := by decide +kernel
theorem dX10_keep_31 : decode cX10_keep 31 = .ok (.if_icmp .ge 26, 3) := by decide +kernel
theorem dX10_keep_34 : decode cX10_keep 34 = .ok (.aload_n 0, 1) := by decide +kernel
theorem dX10_keep_35 : decode cX10_keep 35 = .ok (.getfield 23, 3) := by decide +kernel
theorem dX10_keep_38 : decode cX10_keep 38 = .ok (.bipush 31, 2) := by decide +kernel
theorem dX10_keep_40 : decode cX10_keep 40 = .ok (.iload_n 1, 1) := by decide +kernel
theorem dX10_keep_41 : decode cX10_keep 41 = .ok (.imul, 1) := by decide +kernel
theorem dX10_keep_42 : decode cX10_keep 42 = .ok (.iload_n 2, 1) := by decide +kernel
theorem dX10_keep_43 : decode cX10_keep 43 = .ok (.iadd, 1) := by decide +kernel
theorem dX10_keep_44 : decode cX10_keep 44 = .ok (.aload_n 0, 1) := by decide +kernel
theorem dX10_keep_45 : decode cX10_keep 45 = .ok (.getfield 20, 3) := by decide +kernel
theorem dX10_keep_48 : decode cX10_keep 48 = .ok (.iload_n 2, 1) := by decide +kernel
theorem dX10_keep_49 : decode cX10_keep 49 = .ok (.iaload, 1) := by decide +kernel
theorem dX10_keep_50 : decode cX10_keep 50 = .ok (.iastore, 1) := by decide +kernel
theorem dX10_keep_51 : decode cX10_keep 51 = .ok (.iinc 2 1, 3) := by decide +kernel
theorem dX10_keep_54 : decode cX10_keep 54 = .ok (.goto (-26), 3) := by decide +kernel
theorem dX10_keep_57 : decode cX10_keep 57 = .ok (.aload_n 0, 1) := by decide +kernel
theorem dX10_keep_58 : decode cX10_keep 58 = .ok (.getfield 26, 3) := by decide +kernel
theorem dX10_keep_61 : decode cX10_keep 61 = .ok (.iload_n 1, 1) := by decide +kernel
theorem dX10_keep_62 : decode cX10_keep 62 = .ok (.aload_n 0, 1) := by decide +kernel
theorem dX10_keep_63 : decode cX10_keep 63 = .ok (.getfield 127, 3) := by decide +kernel
theorem dX10_keep_66 : decode cX10_keep 66 = .ok (.iastore, 1) := by decide +kernel
theorem dX10_keep_67 : decode cX10_keep 67 = .ok (.aload_n 0, 1) := by decide +kernel
theorem dX10_keep_68 : decode cX10_keep 68 = .ok (.getfield 29, 3) := by decide +kernel
theorem dX10_keep_71 : decode cX10_keep 71 = .ok (.iload_n 1, 1) := by decide +kernel
theorem dX10_keep_72 : decode cX10_keep 72 = .ok (.aload_n 0, 1) := by decide +kernel
theorem dX10_keep_73 : decode cX10_keep 73 = .ok (.getfield 204, 3) := by decide +kernel
theorem dX10_keep_76 : decode cX10_keep 76 = .ok (.iastore, 1) := by decide +kernel
theorem dX10_keep_77 : decode cX10_keep 77 = .ok (.aload_n 0, 1) := by decide +kernel
theorem dX10_keep_78 : decode cX10_keep 78 = .ok (.dup, 1) := by decide +kernel
theorem dX10_keep_79 : decode cX10_keep 79 = .ok (.getfield 221, 3) := by decide +kernel
theorem dX10_keep_82 : decode cX10_keep 82 = .ok (.iconst 1, 1) := by decide +kernel
theorem dX10_keep_83 : decode cX10_keep 83 = .ok (.iload_n 1, 1) := by decide +kernel
theorem dX10_keep_84 : decode cX10_keep 84 = .ok (.ishl, 1) := by decide +kernel
theorem dX10_keep_85 : decode cX10_keep 85 = .ok (.ior, 1) := by decide +kernel
theorem dX10_keep_86 : decode cX10_keep 86 = .ok (.putfield 221, 3) := by decide +kernel
theorem dX10_keep_89 : decode cX10_keep 89 = .ok (.aload_n 0, 1) := by decide +kernel
theorem dX10_keep_90 : decode cX10_keep 90 = .ok (.iconst 0, 1) := by decide +kernel
theorem dX10_keep_91 : decode cX10_keep 91 = .ok (.putfield 51, 3) := by decide +kernel
theorem dX10_keep_94 : decode cX10_keep 94 = .ok (.iconst 1, 1) := by decide +kernel
theorem dX10_keep_95 : decode cX10_keep 95 = .ok (.ireturn, 1) := by decide +kernel
theorem dX10_goBack_0 : decode cX10_goBack 0 = .ok (.iload_n 1, 1) := by decide +kernel
theorem dX10_goBack_1 : decode cX10_goBack 1 = .ok (.i2l, 1) := by decide +kernel
theorem dX10_goBack_2 : decode cX10_goBack 2 = .ok (.lconst 0, 1) := by decide +kernel
theorem dX10_goBack_3 : decode cX10_goBack 3 = .ok (.lconst 1, 1) := by decide +kernel
theorem dX10_goBack_4 : decode cX10_goBack 4 = .ok (.invokestatic 58, 3) := by decide +kernel
theorem dX10_goBack_7 : decode cX10_goBack 7 = .ok (.ifCond .ne 6, 3) := by decide +kernel
theorem dX10_goBack_10 : decode cX10_goBack 10 = .ok (.ldc 175, 2) := by decide +kernel
theorem dX10_goBack_12 : decode cX10_goBack 12 = .ok (.ireturn, 1) := by decide +kernel
theorem dX10_goBack_13 : decode cX10_goBack 13 = .ok (.aload_n 0, 1) := by decide +kernel
theorem dX10_goBack_14 : decode cX10_goBack 14 = .ok (.iload_n 1, 1) := by decide +kernel
theorem dX10_goBack_15 : decode cX10_goBack 15 = .ok (.invokevirtual 224, 3) := by decide +kernel
theorem dX10_goBack_18 : decode cX10_goBack 18 = .ok (.ifCond .ne 6, 3) := by decide +kernel
theorem dX10_goBack_21 : decode cX10_goBack 21 = .ok (.ldc 195, 2) := by decide +kernel
theorem dX10_goBack_23 : decode cX10_goBack 23 = .ok (.ireturn, 1) := by decide +kernel
theorem dX10_goBack_24 : decode cX10_goBack 24 = .ok (.aload_n 0, 1) := by decide +kernel
theorem dX10_goBack_25 : decode cX10_goBack 25 = .ok (.sipush 1394, 3) := by decide +kernel
theorem dX10_goBack_28 : decode cX10_goBack 28 = .ok (.bipush 82, 2) := by decide +kernel
theorem dX10_goBack_30 : decode cX10_goBack 30 = .ok (.iload_n 1, 1) := by decide +kernel
theorem dX10_goBack_31 : decode cX10_goBack 31 = .ok (.imul, 1) := by decide +kernel
theorem dX10_goBack_32 : decode cX10_goBack 32 = .ok (.iadd, 1) := by decide +kernel
theorem dX10_goBack_33 : decode cX10_goBack 33 = .ok (.iconst 0, 1) := by decide +kernel
theorem dX10_goBack_34 : decode cX10_goBack 34 = .ok (.invokevirtual 47, 3) := by decide +kernel
theorem dX10_goBack_37 : decode cX10_goBack 37 = .ok (.iconst 0, 1) := by decide +kernel
theorem dX10_goBack_38 : decode cX10_goBack 38 = .ok (.istore_n 2, 1) := by decide +kernel
theorem dX10_goBack_39 : decode cX10_goBack 39 = .ok (.iload_n 2, 1) := by decide +kernel
theorem dX10_goBack_40 : decode cX10_goBack 40 = .ok (.bipush 31, 2) := by decide +kernel
theorem dX10_goBack_42 : decode cX10_goBack 42 = .ok (.if_icmp .ge 26, 3) := by decide +kernel
theorem dX10_goBack_45 : decode cX10_goBack 45 = .ok (.aload_n 0, 1) := by decide +kernel
theorem dX10_goBack_46 : decode cX10_goBack 46 = .ok (.getfield 20, 3) := by decide +kernel
theorem dX10_goBack_49 : decode cX10_goBack 49 = .ok (.iload_n 2, 1) := by decide +kernel
theorem dX10_goBack_50 : decode cX10_goBack 50 = .ok (.aload_n 0, 1) := by decide +kernel
theorem dX10_goBack_51 : decode cX10_goBack 51 = .ok (.getfield 23, 3) := by decide +kernel
theorem dX10_goBack_54 : decode cX10_goBack 54 = .ok (.bipush 31, 2) := by decide +kernel
theorem dX10_goBack_56 : decode cX10_goBack 56 = .ok (.iload_n 1, 1) := by decide +kernel
theorem dX10_goBack_57 : decode cX10_goBack 57 = .ok (.imul, 1) := by decide +kernel
theorem dX10_goBack_58 : decode cX10_goBack 58 = .ok (.iload_n 2, 1) := by decide +kernel
theorem dX10_goBack_59 : decode cX10_goBack 59 = .ok (.iadd, 1) := by decide +kernel
theorem dX10_goBack_60 : decode cX10_goBack 60 = .ok (.iaload, 1) := by decide +kernel
theorem dX10_goBack_61 : decode cX10_goBack 61 = .ok (.iastore, 1) := by decide +kernel
theorem dX10_goBack_62 : decode cX10_goBack 62 = .ok (.iinc 2 1, 3) := by decide +kernel
theorem dX10_goBack_65 : decode cX10_goBack 65 = .ok (.goto (-26), 3) := by decide +kernel
theorem dX10_goBack_68 : decode cX10_goBack 68 = .ok (.aload_n 0, 1) := by decide +kernel
theorem dX10_goBack_69 : decode cX10_goBack 69 = .ok (.aload_n 0, 1) := by decide +kernel
theorem dX10_goBack_70 : decode cX10_goBack 70 = .ok (.getfield 26, 3) := by decide +kernel
theorem dX10_goBack_73 : decode cX10_goBack 73 = .ok (.iload_n 1, 1) := by decide +kernel
theorem dX10_goBack_74 : decode cX10_goBack 74 = .ok (.iaload, 1) := by decide +kernel
theorem dX10_goBack_75 : decode cX10_goBack 75 = .ok (.putfield 127, 3) := by decide +kernel
theorem dX10_goBack_78 : decode cX10_goBack 78 = .ok (.aload_n 0, 1) := by decide +kernel
theorem dX10_goBack_79 : decode cX10_goBack 79 = .ok (.aload_n 0, 1) := by decide +kernel
theorem dX10_goBack_80 : decode cX10_goBack 80 = .ok (.getfield 29, 3) := by decide +kernel
theorem dX10_goBack_83 : decode cX10_goBack 83 = .ok (.iload_n 1, 1) := by decide +kernel
theorem dX10_goBack_84 : decode cX10_goBack 84 = .ok (.iaload, 1) := by decide +kernel
theorem dX10_goBack_85 : decode cX10_goBack 85 = .ok (.putfield 204, 3) := by decide +kernel
theorem dX10_goBack_88 : decode cX10_goBack 88 = .ok (.aload_n 0, 1) := by decide +kernel
theorem dX10_goBack_89 : decode cX10_goBack 89 = .ok (.iconst 0, 1) := by decide +kernel
theorem dX10_goBack_90 : decode cX10_goBack 90 = .ok (.putfield 51, 3) := by decide +kernel
theorem dX10_goBack_93 : decode cX10_goBack 93 = .ok (.iconst 1, 1) := by decide +kernel
theorem dX10_goBack_94 : decode cX10_goBack 94 = .ok (.ireturn, 1) := by decide +kernel
theorem dX10_against_0 : decode cX10_against 0 = .ok (.iload_n 1, 1) := by decide +kernel
theorem dX10_against_1 : decode cX10_against 1 = .ok (.i2l, 1) := by decide +kernel
theorem dX10_against_2 : decode cX10_against 2 = .ok (.lconst 0, 1) := by decide +kernel
theorem dX10_against_3 : decode cX10_against 3 = .ok (.lconst 1, 1) := by decide +kernel
theorem dX10_against_4 : decode cX10_against 4 = .ok (.invokestatic 58, 3) := by decide +kernel
theorem dX10_against_7 : decode cX10_against 7 = .ok (.ifCond .ne 6, 3) := by decide +kernel
theorem dX10_against_10 : decode cX10_against 10 = .ok (.ldc 175, 2) := by decide +kernel
theorem dX10_against_12 : decode cX10_against 12 = .ok (.ireturn, 1) := by decide +kernel
theorem dX10_against_13 : decode cX10_against 13 = .ok (.aload_n 0, 1) := by decide +kernel
theorem dX10_against_14 : decode cX10_against 14 = .ok (.iload_n 1, 1) := by decide +kernel
theorem dX10_against_15 : decode cX10_against 15 = .ok (.invokevirtual 224, 3) := by decide +kernel
theorem dX10_against_18 : decode cX10_against 18 = .ok (.ifCond .ne 6, 3) := by decide +kernel
theorem dX10_against_21 : decode cX10_against 21 = .ok (.ldc 195, 2) := by decide +kernel
theorem dX10_against_23 : decode cX10_against 23 = .ok (.ireturn, 1) := by decide +kernel
theorem dX10_against_24 : decode cX10_against 24 = .ok (.sipush 1394, 3) := by decide +kernel
theorem dX10_against_27 : decode cX10_against 27 = .ok (.bipush 82, 2) := by decide +kernel
theorem dX10_against_29 : decode cX10_against 29 = .ok (.iload_n 1, 1) := by decide +kernel
theorem dX10_against_30 : decode cX10_against 30 = .ok (.imul, 1) := by decide +kernel
theorem dX10_against_31 : decode cX10_against 31 = .ok (.iadd, 1) := by decide +kernel
theorem dX10_against_32 : decode cX10_against 32 = .ok (.istore_n 2, 1) := by decide +kernel
theorem dX10_against_33 : decode cX10_against 33 = .ok (.aload_n 0, 1) := by decide +kernel
theorem dX10_against_34 : decode cX10_against 34 = .ok (.getfield 7, 3) := by decide +kernel
theorem dX10_against_37 : decode cX10_against 37 = .ok (.iload_n 2, 1) := by decide +kernel
theorem dX10_against_38 : decode cX10_against 38 = .ok (.iaload, 1) := by decide +kernel
theorem dX10_against_39 : decode cX10_against 39 = .ok (.aload_n 0, 1) := by decide +kernel
theorem dX10_against_40 : decode cX10_against 40 = .ok (.getfield 7, 3) := by decide +kernel
theorem dX10_against_43 : decode cX10_against 43 = .ok (.iconst 0, 1) := by decide +kernel
theorem dX10_against_44 : decode cX10_against 44 = .ok (.iaload, 1) := by decide +kernel
theorem dX10_against_45 : decode cX10_against 45 = .ok (.if_icmp .ne 20, 3) := by decide +kernel
theorem dX10_against_48 : decode cX10_against 48 = .ok (.aload_n 0, 1) := by decide +kernel
theorem dX10_against_49 : decode cX10_against 49 = .ok (.getfield 7, 3) := by decide +kernel
theorem dX10_against_52 : decode cX10_against 52 = .ok (.iload_n 2, 1) := by decide +kernel
theorem dX10_against_53 : decode cX10_against 53 = .ok (.iconst 1, 1) := by decide +kernel
theorem dX10_against_54 : decode cX10_against 54 = .ok (.iadd, 1) := by decide +kernel
theorem dX10_against_55 : decode cX10_against 55 = .ok (.iaload, 1) := by decide +kernel
theorem dX10_against_56 : decode cX10_against 56 = .ok (.aload_n 0, 1) := by decide +kernel
theorem dX10_against_57 : decode cX10_against 57 = .ok (.getfield 7, 3) := by decide +kernel
theorem dX10_against_60 : decode cX10_against 60 = .ok (.iconst 1, 1) := by decide +kernel
theorem dX10_against_61 : decode cX10_against 61 = .ok (.iaload, 1) := by decide +kernel
theorem dX10_against_62 : decode cX10_against 62 = .ok (.if_icmp .eq 5, 3) := by decide +kernel
theorem dX10_against_65 : decode cX10_against 65 = .ok (.iconst (-1), 1) := by decide +kernel
theorem dX10_against_66 : decode cX10_against 66 = .ok (.ireturn, 1) := by decide +kernel
theorem dX10_against_67 : decode cX10_against 67 = .ok (.iconst 0, 1) := by decide +kernel
theorem dX10_against_68 : decode cX10_against 68 = .ok (.istore_n 3, 1) := by decide +kernel
theorem dX10_against_69 : decode cX10_against 69 = .ok (.iconst 0, 1) := by decide +kernel
theorem dX10_against_70 : decode cX10_against 70 = .ok (.istore 4, 2) := by decide +kernel
theorem dX10_against_72 : decode cX10_against 72 = .ok (.iload 4, 2) := by decide +kernel
theorem dX10_against_74 : decode cX10_against 74 = .ok (.aload_n 0, 1) := by decide +kernel
theorem dX10_against_75 : decode cX10_against 75 = .ok (.getfield 7, 3) := by decide +kernel
theorem dX10_against_78 : decode cX10_against 78 = .ok (.iconst 1, 1) := by decide +kernel
theorem dX10_against_79 : decode cX10_against 79 = .ok (.iaload, 1) := by decide +kernel
theorem dX10_against_80 : decode cX10_against 80 = .ok (.if_icmp .ge 68, 3) := by decide +kernel
theorem dX10_against_83 : decode cX10_against 83 = .ok (.iconst 0, 1) := by decide +kernel
theorem dX10_against_84 : decode cX10_against 84 = .ok (.istore 5, 2) := by decide +kernel
theorem dX10_against_86 : decode cX10_against 86 = .ok (.iload 5, 2) := by decide +kernel
theorem dX10_against_88 : decode cX10_against 88 = .ok (.aload_n 0, 1) := by decide +kernel
theorem dX10_against_89 : decode cX10_against 89 = .ok (.getfield 7, 3) := by decide +kernel
theorem dX10_against_92 : decode cX10_against 92 = .ok (.iconst 0, 1) := by decide +kernel
theorem dX10_against_93 : decode cX10_against 93 = .ok (.iaload, 1) := by decide +kernel
theorem dX10_against_94 : decode cX10_against 94 = .ok (.if_icmp .ge 48, 3) := by decide +kernel
theorem dX10_against_97 : decode cX10_against 97 = .ok (.iload_n 3, 1) := by decide +kernel
theorem dX10_against_98 : decode cX10_against 98 = .ok (.aload_n 0, 1) := by decide +kernel
theorem dX10_against_99 : decode cX10_against 99 = .ok (.getfield 7, 3) := by decide +kernel
theorem dX10_against_102 : decode cX10_against 102 = .ok (.iload_n 2, 1) := by decide +kernel
theorem dX10_against_103 : decode cX10_against 103 = .ok (.aload_n 0, 1) := by decide +kernel
theorem dX10_against_104 : decode cX10_against 104 = .ok (.iload 5, 2) := by decide +kernel
theorem dX10_against_106 : decode cX10_against 106 = .ok (.iload 4, 2) := by decide +kernel
theorem dX10_against_108 : decode cX10_against 108 = .ok (.invokevirtual 54, 3) := by decide +kernel
theorem dX10_against_111 : decode cX10_against 111 = .ok (.iadd, 1) := by decide +kernel
theorem dX10_against_112 : decode cX10_against 112 = .ok (.iaload, 1) := by decide +kernel
theorem dX10_against_113 : decode cX10_against 113 = .ok (.aload_n 0, 1) := by decide +kernel
theorem dX10_against_114 : decode cX10_against 114 = .ok (.getfield 7, 3) := by decide +kernel
theorem dX10_against_117 : decode cX10_against 117 = .ok (.aload_n 0, 1) := by decide +kernel
theorem dX10_against_118 : decode cX10_against 118 = .ok (.iload 5, 2) := by decide +kernel
theorem dX10_against_120 : decode cX10_against 120 = .ok (.iload 4, 2) := by decide +kernel
theorem dX10_against_122 : decode cX10_against 122 = .ok (.invokevirtual 54, 3) := by decide +kernel
theorem dX10_against_125 : decode cX10_against 125 = .ok (.iaload, 1) := by decide +kernel
theorem dX10_against_126 : decode cX10_against 126 = .ok (.if_icmp .eq 7, 3) := by decide +kernel
theorem dX10_against_129 : decode cX10_against 129 = .ok (.iconst 1, 1) := by decide +kernel
theorem dX10_against_130 : decode cX10_against 130 = .ok (.goto 4, 3) := by decide +kernel
theorem dX10_against_133 : decode cX10_against 133 = .ok (.iconst 0, 1) := by decide +kernel
theorem dX10_against_134 : decode cX10_against 134 = .ok (.iadd, 1) := by decide +kernel
theorem dX10_against_135 : decode cX10_against 135 = .ok (.istore_n 3, 1) := by decide +kernel
theorem dX10_against_136 : decode cX10_against 136 = .ok (.iinc 5 1, 3) := by decide +kernel
theorem dX10_against_139 : decode cX10_against 139 = .ok (.goto (-53), 3) := by decide +kernel
theorem dX10_against_142 : decode cX10_against 142 = .ok (.iinc 4 1, 3) := by decide +kernel
theorem dX10_against_145 : decode cX10_against 145 = .ok (.goto (-73), 3) := by decide +kernel
theorem dX10_against_148 : decode cX10_against 148 = .ok (.iload_n 3, 1) := by decide +kernel
theorem dX10_against_149 : decode cX10_against 149 = .ok (.ireturn, 1) := by decide +kernel
end
section
theorem dL_law_0 : decode cL_law 0 = .ok (.new 7, 3) := by decide +kernel
theorem dL_law_3 : decode cL_law 3 = .ok (.dup, 1) := by decide +kernel
theorem dL_law_4 : decode cL_law 4 = .ok (.invokespecial 9, 3) := by decide +kernel
theorem dL_law_7 : decode cL_law 7 = .ok (.astore_n 1, 1) := by decide +kernel
theorem dL_law_8 : decode cL_law 8 = .ok (.new 10, 3) := by decide +kernel
theorem dL_law_11 : decode cL_law 11 = .ok (.dup, 1) := by decide +kernel
theorem dL_law_12 : decode cL_law 12 = .ok (.invokespecial 12, 3) := by decide +kernel
theorem dL_law_15 : decode cL_law 15 = .ok (.astore_n 2, 1) := by decide +kernel
theorem dL_law_16 : decode cL_law 16 = .ok (.iconst 0, 1) := by decide +kernel
theorem dL_law_17 : decode cL_law 17 = .ok (.istore_n 3, 1) := by decide +kernel
theorem dL_law_18 : decode cL_law 18 = .ok (.iload_n 3, 1) := by decide +kernel
theorem dL_law_19 : decode cL_law 19 = .ok (.aload_n 0, 1) := by decide +kernel
theorem dL_law_20 : decode cL_law 20 = .ok (.arraylength, 1) := by decide +kernel
theorem dL_law_21 : decode cL_law 21 = .ok (.bipush 6, 2) := by decide +kernel
theorem dL_law_23 : decode cL_law 23 = .ok (.isub, 1) := by decide +kernel
theorem dL_law_24 : decode cL_law 24 = .ok (.if_icmp .gt 918, 3) := by decide +kernel
theorem dL_law_27 : decode cL_law 27 = .ok (.aload_n 0, 1) := by decide +kernel
theorem dL_law_28 : decode cL_law 28 = .ok (.iload_n 3, 1) := by decide +kernel
theorem dL_law_29 : decode cL_law 29 = .ok (.iaload, 1) := by decide +kernel
theorem dL_law_30 : decode cL_law 30 = .ok (.bipush 31, 2) := by decide +kernel
theorem dL_law_32 : decode cL_law 32 = .ok (.iand, 1) := by decide +kernel
theorem dL_law_33 : decode cL_law 33 = .ok (.tableswitch 903 0 25 #[119, 142, 155, 168, 191, 234, 297, 360, 383, 406, 459, 482, 515, 558, 617, 640, 663, 676, 709, 732, 755, 798, 811, 834, 857, 880], 119) := by decide +kernel
theorem dL_law_152 : decode cL_law 152 = .ok (.aload_n 1, 1) := by decide +kernel
theorem dL_law_153 : decode cL_law 153 = .ok (.aload_n 0, 1) := by decide +kernel
theorem dL_law_154 : decode cL_law 154 = .ok (.iload_n 3, 1) := by decide +kernel
theorem dL_law_155 : decode cL_law 155 = .ok (.iconst 1, 1) := by decide +kernel
theorem dL_law_156 : decode cL_law 156 = .ok (.iadd, 1) := by decide +kernel
theorem dL_law_157 : decode cL_law 157 = .ok (.iaload, 1) := by decide +kernel
theorem dL_law_158 : decode cL_law 158 = .ok (.invokevirtual 13, 3) := by decide +kernel
theorem dL_law_161 : decode cL_law 161 = .ok (.aload_n 2, 1) := by decide +kernel
theorem dL_law_162 : decode cL_law 162 = .ok (.aload_n 0, 1) := by decide +kernel
theorem dL_law_163 : decode cL_law 163 = .ok (.iload_n 3, 1) := by decide +kernel
theorem dL_law_164 : decode cL_law 164 = .ok (.iconst 1, 1) := by decide +kernel
theorem dL_law_165 : decode cL_law 165 = .ok (.iadd, 1) := by decide +kernel
theorem dL_law_166 : decode cL_law 166 = .ok (.iaload, 1) := by decide +kernel
theorem dL_law_167 : decode cL_law 167 = .ok (.invokevirtual 17, 3) := by decide +kernel
theorem dL_law_170 : decode cL_law 170 = .ok (.if_icmp .eq 766, 3) := by decide +kernel
theorem dL_law_173 : decode cL_law 173 = .ok (.iconst 0, 1) := by decide +kernel
theorem dL_law_174 : decode cL_law 174 = .ok (.ireturn, 1) := by decide +kernel
theorem dL_law_175 : decode cL_law 175 = .ok (.aload_n 1, 1) := by decide +kernel
theorem dL_law_176 : decode cL_law 176 = .ok (.invokevirtual 18, 3) := by decide +kernel
theorem dL_law_179 : decode cL_law 179 = .ok (.aload_n 2, 1) := by decide +kernel
theorem dL_law_180 : decode cL_law 180 = .ok (.invokevirtual 22, 3) := by decide +kernel
theorem dL_law_183 : decode cL_law 183 = .ok (.if_icmp .eq 753, 3) := by decide +kernel
theorem dL_law_186 : decode cL_law 186 = .ok (.iconst 0, 1) := by decide +kernel
theorem dL_law_187 : decode cL_law 187 = .ok (.ireturn, 1) := by decide +kernel
theorem dL_law_188 : decode cL_law 188 = .ok (.aload_n 1, 1) := by decide +kernel
theorem dL_law_189 : decode cL_law 189 = .ok (.invokevirtual 23, 3) := by decide +kernel
theorem dL_law_192 : decode cL_law 192 = .ok (.aload_n 2, 1) := by decide +kernel
theorem dL_law_193 : decode cL_law 193 = .ok (.invokevirtual 26, 3) := by decide +kernel
theorem dL_law_196 : decode cL_law 196 = .ok (.if_icmp .eq 740, 3) := by decide +kernel
theorem dL_law_199 : decode cL_law 199 = .ok (.iconst 0, 1) := by decide +kernel
theorem dL_law_200 : decode cL_law 200 = .ok (.ireturn, 1) := by decide +kernel
theorem dL_law_201 : decode cL_law 201 = .ok (.aload_n 1, 1) := by decide +kernel
theorem dL_law_202 : decode cL_law 202 = .ok (.aload_n 0, 1) := by decide +kernel
theorem dL_law_203 : decode cL_law 203 = .ok (.iload_n 3, 1) := by decide +kernel
theorem dL_law_204 : decode cL_law 204 = .ok (.iconst 1, 1) := by decide +kernel
theorem dL_law_205 : decode cL_law 205 = .ok (.iadd, 1) := by decide +kernel
theorem dL_law_206 : decode cL_law 206 = .ok (.iaload, 1) := by decide +kernel
theorem dL_law_207 : decode cL_law 207 = .ok (.invokevirtual 27, 3) := by decide +kernel
theorem dL_law_210 : decode cL_law 210 = .ok (.aload_n 2, 1) := by decide +kernel
theorem dL_law_211 : decode cL_law 211 = .ok (.aload_n 0, 1) := by decide +kernel
theorem dL_law_212 : decode cL_law 212 = .ok (.iload_n 3, 1) := by decide +kernel
theorem dL_law_213 : decode cL_law 213 = .ok (.iconst 1, 1) := by decide +kernel
theorem dL_law_214 : decode cL_law 214 = .ok (.iadd, 1) := by decide +kernel
theorem dL_law_215 : decode cL_law 215 = .ok (.iaload, 1) := by decide +kernel
theorem dL_law_216 : decode cL_law 216 = .ok (.invokevirtual 30, 3) := by decide +kernel
theorem dL_law_219 : decode cL_law 219 = .ok (.if_icmp .eq 717, 3) := by decide +kernel
theorem dL_law_222 : decode cL_law 222 = .ok (.iconst 0, 1) := by decide +kernel
theorem dL_law_223 : decode cL_law 223 = .ok (.ireturn, 1) := by decide +kernel
theorem dL_law_224 : decode cL_law 224 = .ok (.aload_n 1, 1) := by decide +kernel
theorem dL_law_225 : decode cL_law 225 = .ok (.aload_n 0, 1) := by decide +kernel
theorem dL_law_226 : decode cL_law 226 = .ok (.iload_n 3, 1) := by decide +kernel
theorem dL_law_227 : decode cL_law 227 = .ok (.iconst 1, 1) := by decide +kernel
theorem dL_law_228 : decode cL_law 228 = .ok (.iadd, 1) := by decide +kernel
theorem dL_law_229 : decode cL_law 229 = .ok (.iaload, 1) := by decide +kernel
theorem dL_law_230 : decode cL_law 230 = .ok (.aload_n 0, 1) := by decide +kernel
theorem dL_law_231 : decode cL_law 231 = .ok (.iload_n 3, 1) := by decide +kernel
theorem dL_law_232 : decode cL_law 232 = .ok (.iconst 2, 1) := by decide +kernel
theorem dL_law_233 : decode cL_law 233 = .ok (.iadd, 1) := by decide +kernel
theorem dL_law_234 : decode cL_law 234 = .ok (.iaload, 1) := by decide +kernel
theorem dL_law_235 : decode cL_law 235 = .ok (.aload_n 0, 1) := by decide +kernel
theorem dL_law_236 : decode cL_law 236 = .ok (.iload_n 3, 1) := by decide +kernel
theorem dL_law_237 : decode cL_law 237 = .ok (.iconst 3, 1) := by decide +kernel
theorem dL_law_238 : decode cL_law 238 = .ok (.iadd, 1) := by decide +kernel
theorem dL_law_239 : decode cL_law 239 = .ok (.iaload, 1) := by decide +kernel
theorem dL_law_240 : decode cL_law 240 = .ok (.invokevirtual 31, 3) := by decide +kernel
theorem dL_law_243 : decode cL_law 243 = .ok (.aload_n 2, 1) := by decide +kernel
theorem dL_law_244 : decode cL_law 244 = .ok (.aload_n 0, 1) := by decide +kernel
theorem dL_law_245 : decode cL_law 245 = .ok (.iload_n 3, 1) := by decide +kernel
theorem dL_law_246 : decode cL_law 246 = .ok (.iconst 1, 1) := by decide +kernel
theorem dL_law_247 : decode cL_law 247 = .ok (.iadd, 1) := by decide +kernel
theorem dL_law_248 : decode cL_law 248 = .ok (.iaload, 1) := by decide +kernel
theorem dL_law_249 : decode cL_law 249 = .ok (.aload_n 0, 1) := by decide +kernel
theorem dL_law_250 : decode cL_law 250 = .ok (.iload_n 3, 1) := by decide +kernel
theorem dL_law_251 : decode cL_law 251 = .ok (.iconst 2, 1) := by decide +kernel
theorem dL_law_252 : decode cL_law 252 = .ok (.iadd, 1) := by decide +kernel
theorem dL_law_253 : decode cL_law 253 = .ok (.iaload, 1) := by decide +kernel
theorem dL_law_254 : decode cL_law 254 = .ok (.aload_n 0, 1) := by decide +kernel
theorem dL_law_255 : decode cL_law 255 = .ok (.iload_n 3, 1) := by decide +kernel
theorem dL_law_256 : decode cL_law 256 = .ok (.iconst 3, 1) := by decide +kernel
theorem dL_law_257 : decode cL_law 257 = .ok (.iadd, 1) := by decide +kernel
theorem dL_law_258 : decode cL_law 258 = .ok (.iaload, 1) := by decide +kernel
theorem dL_law_259 : decode cL_law 259 = .ok (.invokevirtual 35, 3) := by decide +kernel
theorem dL_law_262 : decode cL_law 262 = .ok (.if_icmp .eq 674, 3) := by decide +kernel
theorem dL_law_265 : decode cL_law 265 = .ok (.iconst 0, 1) := by decide +kernel
theorem dL_law_266 : decode cL_law 266 = .ok (.ireturn, 1) := by decide +kernel
theorem dL_law_267 : decode cL_law 267 = .ok (.aload_n 1, 1) := by decide +kernel
theorem dL_law_268 : decode cL_law 268 = .ok (.aload_n 0, 1) := by decide +kernel
theorem dL_law_269 : decode cL_law 269 = .ok (.iload_n 3, 1) := by decide +kernel
theorem dL_law_270 : decode cL_law 270 = .ok (.iconst 1, 1) := by decide +kernel
theorem dL_law_271 : decode cL_law 271 = .ok (.iadd, 1) := by decide +kernel
theorem dL_law_272 : decode cL_law 272 = .ok (.iaload, 1) := by decide +kernel
theorem dL_law_273 : decode cL_law 273 = .ok (.aload_n 0, 1) := by decide +kernel
theorem dL_law_274 : decode cL_law 274 = .ok (.iload_n 3, 1) := by decide +kernel
theorem dL_law_275 : decode cL_law 275 = .ok (.iconst 2, 1) := by decide +kernel
theorem dL_law_276 : decode cL_law 276 = .ok (.iadd, 1) := by decide +kernel
theorem dL_law_277 : decode cL_law 277 = .ok (.iaload, 1) := by decide +kernel
theorem dL_law_278 : decode cL_law 278 = .ok (.aload_n 0, 1) := by decide +kernel
theorem dL_law_279 : decode cL_law 279 = .ok (.iload_n 3, 1) := by decide +kernel
theorem dL_law_280 : decode cL_law 280 = .ok (.iconst 3, 1) := by decide +kernel
theorem dL_law_281 : decode cL_law 281 = .ok (.iadd, 1) := by decide +kernel
theorem dL_law_282 : decode cL_law 282 = .ok (.iaload, 1) := by decide +kernel
theorem dL_law_283 : decode cL_law 283 = .ok (.aload_n 0, 1) := by decide +kernel
theorem dL_law_284 : decode cL_law 284 = .ok (.iload_n 3, 1) := by decide +kernel
theorem dL_law_285 : decode cL_law 285 = .ok (.iconst 4, 1) := by decide +kernel
theorem dL_law_286 : decode cL_law 286 = .ok (.iadd, 1) := by decide +kernel
theorem dL_law_287 : decode cL_law 287 = .ok (.iaload, 1) := by decide +kernel
theorem dL_law_288 : decode cL_law 288 = .ok (.aload_n 0, 1) := by decide +kernel
theorem dL_law_289 : decode cL_law 289 = .ok (.iload_n 3, 1) := by decide +kernel
theorem dL_law_290 : decode cL_law 290 = .ok (.iconst 5, 1) := by decide +kernel
theorem dL_law_291 : decode cL_law 291 = .ok (.iadd, 1) := by decide +kernel
theorem dL_law_292 : decode cL_law 292 = .ok (.iaload, 1) := by decide +kernel
theorem dL_law_293 : decode cL_law 293 = .ok (.invokevirtual 36, 3) := by decide +kernel
theorem dL_law_296 : decode cL_law 296 = .ok (.aload_n 2, 1) := by decide +kernel
theorem dL_law_297 : decode cL_law 297 = .ok (.aload_n 0, 1) := by decide +kernel
theorem dL_law_298 : decode cL_law 298 = .ok (.iload_n 3, 1) := by decide +kernel
theorem dL_law_299 : decode cL_law 299 = .ok (.iconst 1, 1) := by decide +kernel
theorem dL_law_300 : decode cL_law 300 = .ok (.iadd, 1) := by decide +kernel
theorem dL_law_301 : decode cL_law 301 = .ok (.iaload, 1) := by decide +kernel
theorem dL_law_302 : decode cL_law 302 = .ok (.aload_n 0, 1) := by decide +kernel
theorem dL_law_303 : decode cL_law 303 = .ok (.iload_n 3, 1) := by decide +kernel
theorem dL_law_304 : decode cL_law 304 = .ok (.iconst 2, 1) := by decide +kernel
theorem dL_law_305 : decode cL_law 305 = .ok (.iadd, 1) := by decide +kernel
theorem dL_law_306 : decode cL_law 306 = .ok (.iaload, 1) := by decide +kernel
theorem dL_law_307 : decode cL_law 307 = .ok (.aload_n 0, 1) := by decide +kernel
theorem dL_law_308 : decode cL_law 308 = .ok (.iload_n 3, 1) := by decide +kernel
theorem dL_law_309 : decode cL_law 309 = .ok (.iconst 3, 1) := by decide +kernel
theorem dL_law_310 : decode cL_law 310 = .ok (.iadd, 1) := by decide +kernel
theorem dL_law_311 : decode cL_law 311 = .ok (.iaload, 1) := by decide +kernel
theorem dL_law_312 : decode cL_law 312 = .ok (.aload_n 0, 1) := by decide +kernel
theorem dL_law_313 : decode cL_law 313 = .ok (.iload_n 3, 1) := by decide +kernel
theorem dL_law_314 : decode cL_law 314 = .ok (.iconst 4, 1) := by decide +kernel
theorem dL_law_315 : decode cL_law 315 = .ok (.iadd, 1) := by decide +kernel
theorem dL_law_316 : decode cL_law 316 = .ok (.iaload, 1) := by decide +kernel
theorem dL_law_317 : decode cL_law 317 = .ok (.aload_n 0, 1) := by decide +kernel
theorem dL_law_318 : decode cL_law 318 = .ok (.iload_n 3, 1) := by decide +kernel
theorem dL_law_319 : decode cL_law 319 = .ok (.iconst 5, 1) := by decide +kernel
theorem dL_law_320 : decode cL_law 320 = .ok (.iadd, 1) := by decide +kernel
theorem dL_law_321 : decode cL_law 321 = .ok (.iaload, 1) := by decide +kernel
theorem dL_law_322 : decode cL_law 322 = .ok (.invokevirtual 40, 3) := by decide +kernel
theorem dL_law_325 : decode cL_law 325 = .ok (.if_icmp .eq 611, 3) := by decide +kernel
theorem dL_law_328 : decode cL_law 328 = .ok (.iconst 0, 1) := by decide +kernel
theorem dL_law_329 : decode cL_law 329 = .ok (.ireturn, 1) := by decide +kernel
theorem dL_law_330 : decode cL_law 330 = .ok (.aload_n 1, 1) := by decide +kernel
theorem dL_law_331 : decode cL_law 331 = .ok (.aload_n 0, 1) := by decide +kernel
theorem dL_law_332 : decode cL_law 332 = .ok (.iload_n 3, 1) := by decide +kernel
theorem dL_law_333 : decode cL_law 333 = .ok (.iconst 1, 1) := by decide +kernel
theorem dL_law_334 : decode cL_law 334 = .ok (.iadd, 1) := by decide +kernel
theorem dL_law_335 : decode cL_law 335 = .ok (.iaload, 1) := by decide +kernel
theorem dL_law_336 : decode cL_law 336 = .ok (.aload_n 0, 1) := by decide +kernel
theorem dL_law_337 : decode cL_law 337 = .ok (.iload_n 3, 1) := by decide +kernel
theorem dL_law_338 : decode cL_law 338 = .ok (.iconst 2, 1) := by decide +kernel
theorem dL_law_339 : decode cL_law 339 = .ok (.iadd, 1) := by decide +kernel
theorem dL_law_340 : decode cL_law 340 = .ok (.iaload, 1) := by decide +kernel
theorem dL_law_341 : decode cL_law 341 = .ok (.aload_n 0, 1) := by decide +kernel
theorem dL_law_342 : decode cL_law 342 = .ok (.iload_n 3, 1) := by decide +kernel
theorem dL_law_343 : decode cL_law 343 = .ok (.iconst 3, 1) := by decide +kernel
theorem dL_law_344 : decode cL_law 344 = .ok (.iadd, 1) := by decide +kernel
theorem dL_law_345 : decode cL_law 345 = .ok (.iaload, 1) := by decide +kernel
theorem dL_law_346 : decode cL_law 346 = .ok (.aload_n 0, 1) := by decide +kernel
theorem dL_law_347 : decode cL_law 347 = .ok (.iload_n 3, 1) := by decide +kernel
theorem dL_law_348 : decode cL_law 348 = .ok (.iconst 4, 1) := by decide +kernel
theorem dL_law_349 : decode cL_law 349 = .ok (.iadd, 1) := by decide +kernel
theorem dL_law_350 : decode cL_law 350 = .ok (.iaload, 1) := by decide +kernel
theorem dL_law_351 : decode cL_law 351 = .ok (.aload_n 0, 1) := by decide +kernel
theorem dL_law_352 : decode cL_law 352 = .ok (.iload_n 3, 1) := by decide +kernel
theorem dL_law_353 : decode cL_law 353 = .ok (.iconst 5, 1) := by decide +kernel
theorem dL_law_354 : decode cL_law 354 = .ok (.iadd, 1) := by decide +kernel
theorem dL_law_355 : decode cL_law 355 = .ok (.iaload, 1) := by decide +kernel
theorem dL_law_356 : decode cL_law 356 = .ok (.invokevirtual 41, 3) := by decide +kernel
theorem dL_law_359 : decode cL_law 359 = .ok (.aload_n 2, 1) := by decide +kernel
theorem dL_law_360 : decode cL_law 360 = .ok (.aload_n 0, 1) := by decide +kernel
theorem dL_law_361 : decode cL_law 361 = .ok (.iload_n 3, 1) := by decide +kernel
theorem dL_law_362 : decode cL_law 362 = .ok (.iconst 1, 1) := by decide +kernel
theorem dL_law_363 : decode cL_law 363 = .ok (.iadd, 1) := by decide +kernel
theorem dL_law_364 : decode cL_law 364 = .ok (.iaload, 1) := by decide +kernel
theorem dL_law_365 : decode cL_law 365 = .ok (.aload_n 0, 1) := by decide +kernel
theorem dL_law_366 : decode cL_law 366 = .ok (.iload_n 3, 1) := by decide +kernel
theorem dL_law_367 : decode cL_law 367 = .ok (.iconst 2, 1) := by decide +kernel
theorem dL_law_368 : decode cL_law 368 = .ok (.iadd, 1) := by decide +kernel
theorem dL_law_369 : decode cL_law 369 = .ok (.iaload, 1) := by decide +kernel
theorem dL_law_370 : decode cL_law 370 = .ok (.aload_n 0, 1) := by decide +kernel
theorem dL_law_371 : decode cL_law 371 = .ok (.iload_n 3, 1) := by decide +kernel
theorem dL_law_372 : decode cL_law 372 = .ok (.iconst 3, 1) := by decide +kernel
theorem dL_law_373 : decode cL_law 373 = .ok (.iadd, 1) := by decide +kernel
theorem dL_law_374 : decode cL_law 374 = .ok (.iaload, 1) := by decide +kernel
theorem dL_law_375 : decode cL_law 375 = .ok (.aload_n 0, 1) := by decide +kernel
theorem dL_law_376 : decode cL_law 376 = .ok (.iload_n 3, 1) := by decide +kernel
theorem dL_law_377 : decode cL_law 377 = .ok (.iconst 4, 1) := by decide +kernel
theorem dL_law_378 : decode cL_law 378 = .ok (.iadd, 1) := by decide +kernel
theorem dL_law_379 : decode cL_law 379 = .ok (.iaload, 1) := by decide +kernel
theorem dL_law_380 : decode cL_law 380 = .ok (.aload_n 0, 1) := by decide +kernel
theorem dL_law_381 : decode cL_law 381 = .ok (.iload_n 3, 1) := by decide +kernel
theorem dL_law_382 : decode cL_law 382 = .ok (.iconst 5, 1) := by decide +kernel
theorem dL_law_383 : decode cL_law 383 = .ok (.iadd, 1) := by decide +kernel
theorem dL_law_384 : decode cL_law 384 = .ok (.iaload, 1) := by decide +kernel
theorem dL_law_385 : decode cL_law 385 = .ok (.invokevirtual 44, 3) := by decide +kernel
theorem dL_law_388 : decode cL_law 388 = .ok (.if_icmp .eq 548, 3) := by decide +kernel
theorem dL_law_391 : decode cL_law 391 = .ok (.iconst 0, 1) := by decide +kernel
theorem dL_law_392 : decode cL_law 392 = .ok (.ireturn, 1) := by decide +kernel
theorem dL_law_393 : decode cL_law 393 = .ok (.aload_n 1, 1) := by decide +kernel
theorem dL_law_394 : decode cL_law 394 = .ok (.aload_n 0, 1) := by decide +kernel
theorem dL_law_395 : decode cL_law 395 = .ok (.iload_n 3, 1) := by decide +kernel
theorem dL_law_396 : decode cL_law 396 = .ok (.iconst 1, 1) := by decide +kernel
theorem dL_law_397 : decode cL_law 397 = .ok (.iadd, 1) := by decide +kernel
theorem dL_law_398 : decode cL_law 398 = .ok (.iaload, 1) := by decide +kernel
theorem dL_law_399 : decode cL_law 399 = .ok (.invokevirtual 45, 3) := by decide +kernel
theorem dL_law_402 : decode cL_law 402 = .ok (.aload_n 2, 1) := by decide +kernel
theorem dL_law_403 : decode cL_law 403 = .ok (.aload_n 0, 1) := by decide +kernel
theorem dL_law_404 : decode cL_law 404 = .ok (.iload_n 3, 1) := by decide +kernel
theorem dL_law_405 : decode cL_law 405 = .ok (.iconst 1, 1) := by decide +kernel
theorem dL_law_406 : decode cL_law 406 = .ok (.iadd, 1) := by decide +kernel
theorem dL_law_407 : decode cL_law 407 = .ok (.iaload, 1) := by decide +kernel
theorem dL_law_408 : decode cL_law 408 = .ok (.invokevirtual 48, 3) := by decide +kernel
theorem dL_law_411 : decode cL_law 411 = .ok (.if_icmp .eq 525, 3) := by decide +kernel
theorem dL_law_414 : decode cL_law 414 = .ok (.iconst 0, 1) := by decide +kernel
theorem dL_law_415 : decode cL_law 415 = .ok (.ireturn, 1) := by decide +kernel
theorem dL_law_416 : decode cL_law 416 = .ok (.aload_n 1, 1) := by decide +kernel
theorem dL_law_417 : decode cL_law 417 = .ok (.aload_n 0, 1) := by decide +kernel
theorem dL_law_418 : decode cL_law 418 = .ok (.iload_n 3, 1) := by decide +kernel
theorem dL_law_419 : decode cL_law 419 = .ok (.iconst 1, 1) := by decide +kernel
theorem dL_law_420 : decode cL_law 420 = .ok (.iadd, 1) := by decide +kernel
theorem dL_law_421 : decode cL_law 421 = .ok (.iaload, 1) := by decide +kernel
theorem dL_law_422 : decode cL_law 422 = .ok (.invokevirtual 49, 3) := by decide +kernel
theorem dL_law_425 : decode cL_law 425 = .ok (.aload_n 2, 1) := by decide +kernel
theorem dL_law_426 : decode cL_law 426 = .ok (.aload_n 0, 1) := by decide +kernel
theorem dL_law_427 : decode cL_law 427 = .ok (.iload_n 3, 1) := by decide +kernel
theorem dL_law_428 : decode cL_law 428 = .ok (.iconst 1, 1) := by decide +kernel
theorem dL_law_429 : decode cL_law 429 = .ok (.iadd, 1) := by decide +kernel
theorem dL_law_430 : decode cL_law 430 = .ok (.iaload, 1) := by decide +kernel
theorem dL_law_431 : decode cL_law 431 = .ok (.invokevirtual 52, 3) := by decide +kernel
theorem dL_law_434 : decode cL_law 434 = .ok (.if_icmp .eq 502, 3) := by decide +kernel
theorem dL_law_437 : decode cL_law 437 = .ok (.iconst 0, 1) := by decide +kernel
theorem dL_law_438 : decode cL_law 438 = .ok (.ireturn, 1) := by decide +kernel
theorem dL_law_439 : decode cL_law 439 = .ok (.aload_n 1, 1) := by decide +kernel
theorem dL_law_440 : decode cL_law 440 = .ok (.aload_n 0, 1) := by decide +kernel
theorem dL_law_441 : decode cL_law 441 = .ok (.iload_n 3, 1) := by decide +kernel
theorem dL_law_442 : decode cL_law 442 = .ok (.iconst 1, 1) := by decide +kernel
theorem dL_law_443 : decode cL_law 443 = .ok (.iadd, 1) := by decide +kernel
theorem dL_law_444 : decode cL_law 444 = .ok (.iaload, 1) := by decide +kernel
theorem dL_law_445 : decode cL_law 445 = .ok (.aload_n 0, 1) := by decide +kernel
theorem dL_law_446 : decode cL_law 446 = .ok (.iload_n 3, 1) := by decide +kernel
theorem dL_law_447 : decode cL_law 447 = .ok (.iconst 2, 1) := by decide +kernel
theorem dL_law_448 : decode cL_law 448 = .ok (.iadd, 1) := by decide +kernel
theorem dL_law_449 : decode cL_law 449 = .ok (.iaload, 1) := by decide +kernel
theorem dL_law_450 : decode cL_law 450 = .ok (.aload_n 0, 1) := by decide +kernel
theorem dL_law_451 : decode cL_law 451 = .ok (.iload_n 3, 1) := by decide +kernel
theorem dL_law_452 : decode cL_law 452 = .ok (.iconst 3, 1) := by decide +kernel
theorem dL_law_453 : decode cL_law 453 = .ok (.iadd, 1) := by decide +kernel
theorem dL_law_454 : decode cL_law 454 = .ok (.iaload, 1) := by decide +kernel
theorem dL_law_455 : decode cL_law 455 = .ok (.aload_n 0, 1) := by decide +kernel
theorem dL_law_456 : decode cL_law 456 = .ok (.iload_n 3, 1) := by decide +kernel
theorem dL_law_457 : decode cL_law 457 = .ok (.iconst 4, 1) := by decide +kernel
theorem dL_law_458 : decode cL_law 458 = .ok (.iadd, 1) := by decide +kernel
theorem dL_law_459 : decode cL_law 459 = .ok (.iaload, 1) := by decide +kernel
theorem dL_law_460 : decode cL_law 460 = .ok (.invokevirtual 53, 3) := by decide +kernel
theorem dL_law_463 : decode cL_law 463 = .ok (.aload_n 2, 1) := by decide +kernel
theorem dL_law_464 : decode cL_law 464 = .ok (.aload_n 0, 1) := by decide +kernel
theorem dL_law_465 : decode cL_law 465 = .ok (.iload_n 3, 1) := by decide +kernel
theorem dL_law_466 : decode cL_law 466 = .ok (.iconst 1, 1) := by decide +kernel
theorem dL_law_467 : decode cL_law 467 = .ok (.iadd, 1) := by decide +kernel
theorem dL_law_468 : decode cL_law 468 = .ok (.iaload, 1) := by decide +kernel
theorem dL_law_469 : decode cL_law 469 = .ok (.aload_n 0, 1) := by decide +kernel
theorem dL_law_470 : decode cL_law 470 = .ok (.iload_n 3, 1) := by decide +kernel
theorem dL_law_471 : decode cL_law 471 = .ok (.iconst 2, 1) := by decide +kernel
theorem dL_law_472 : decode cL_law 472 = .ok (.iadd, 1) := by decide +kernel
theorem dL_law_473 : decode cL_law 473 = .ok (.iaload, 1) := by decide +kernel
theorem dL_law_474 : decode cL_law 474 = .ok (.aload_n 0, 1) := by decide +kernel
theorem dL_law_475 : decode cL_law 475 = .ok (.iload_n 3, 1) := by decide +kernel
theorem dL_law_476 : decode cL_law 476 = .ok (.iconst 3, 1) := by decide +kernel
theorem dL_law_477 : decode cL_law 477 = .ok (.iadd, 1) := by decide +kernel
theorem dL_law_478 : decode cL_law 478 = .ok (.iaload, 1) := by decide +kernel
theorem dL_law_479 : decode cL_law 479 = .ok (.aload_n 0, 1) := by decide +kernel
theorem dL_law_480 : decode cL_law 480 = .ok (.iload_n 3, 1) := by decide +kernel
theorem dL_law_481 : decode cL_law 481 = .ok (.iconst 4, 1) := by decide +kernel
theorem dL_law_482 : decode cL_law 482 = .ok (.iadd, 1) := by decide +kernel
theorem dL_law_483 : decode cL_law 483 = .ok (.iaload, 1) := by decide +kernel
theorem dL_law_484 : decode cL_law 484 = .ok (.invokevirtual 57, 3) := by decide +kernel
theorem dL_law_487 : decode cL_law 487 = .ok (.if_icmp .eq 449, 3) := by decide +kernel
theorem dL_law_490 : decode cL_law 490 = .ok (.iconst 0, 1) := by decide +kernel
theorem dL_law_491 : decode cL_law 491 = .ok (.ireturn, 1) := by decide +kernel
theorem dL_law_492 : decode cL_law 492 = .ok (.aload_n 1, 1) := by decide +kernel
theorem dL_law_493 : decode cL_law 493 = .ok (.aload_n 0, 1) := by decide +kernel
theorem dL_law_494 : decode cL_law 494 = .ok (.iload_n 3, 1) := by decide +kernel
theorem dL_law_495 : decode cL_law 495 = .ok (.iconst 1, 1) := by decide +kernel
theorem dL_law_496 : decode cL_law 496 = .ok (.iadd, 1) := by decide +kernel
theorem dL_law_497 : decode cL_law 497 = .ok (.iaload, 1) := by decide +kernel
theorem dL_law_498 : decode cL_law 498 = .ok (.invokevirtual 58, 3) := by decide +kernel
theorem dL_law_501 : decode cL_law 501 = .ok (.aload_n 2, 1) := by decide +kernel
theorem dL_law_502 : decode cL_law 502 = .ok (.aload_n 0, 1) := by decide +kernel
theorem dL_law_503 : decode cL_law 503 = .ok (.iload_n 3, 1) := by decide +kernel
theorem dL_law_504 : decode cL_law 504 = .ok (.iconst 1, 1) := by decide +kernel
theorem dL_law_505 : decode cL_law 505 = .ok (.iadd, 1) := by decide +kernel
theorem dL_law_506 : decode cL_law 506 = .ok (.iaload, 1) := by decide +kernel
theorem dL_law_507 : decode cL_law 507 = .ok (.invokevirtual 61, 3) := by decide +kernel
theorem dL_law_510 : decode cL_law 510 = .ok (.if_icmp .eq 426, 3) := by decide +kernel
theorem dL_law_513 : decode cL_law 513 = .ok (.iconst 0, 1) := by decide +kernel
theorem dL_law_514 : decode cL_law 514 = .ok (.ireturn, 1) := by decide +kernel
theorem dL_law_515 : decode cL_law 515 = .ok (.aload_n 1, 1) := by decide +kernel
theorem dL_law_516 : decode cL_law 516 = .ok (.aload_n 0, 1) := by decide +kernel
theorem dL_law_517 : decode cL_law 517 = .ok (.iload_n 3, 1) := by decide +kernel
theorem dL_law_518 : decode cL_law 518 = .ok (.iconst 1, 1) := by decide +kernel
theorem dL_law_519 : decode cL_law 519 = .ok (.iadd, 1) := by decide +kernel
theorem dL_law_520 : decode cL_law 520 = .ok (.iaload, 1) := by decide +kernel
theorem dL_law_521 : decode cL_law 521 = .ok (.aload_n 0, 1) := by decide +kernel
theorem dL_law_522 : decode cL_law 522 = .ok (.iload_n 3, 1) := by decide +kernel
theorem dL_law_523 : decode cL_law 523 = .ok (.iconst 2, 1) := by decide +kernel
theorem dL_law_524 : decode cL_law 524 = .ok (.iadd, 1) := by decide +kernel
theorem dL_law_525 : decode cL_law 525 = .ok (.iaload, 1) := by decide +kernel
theorem dL_law_526 : decode cL_law 526 = .ok (.invokevirtual 62, 3) := by decide +kernel
theorem dL_law_529 : decode cL_law 529 = .ok (.aload_n 2, 1) := by decide +kernel
theorem dL_law_530 : decode cL_law 530 = .ok (.aload_n 0, 1) := by decide +kernel
theorem dL_law_531 : decode cL_law 531 = .ok (.iload_n 3, 1) := by decide +kernel
theorem dL_law_532 : decode cL_law 532 = .ok (.iconst 1, 1) := by decide +kernel
theorem dL_law_533 : decode cL_law 533 = .ok (.iadd, 1) := by decide +kernel
theorem dL_law_534 : decode cL_law 534 = .ok (.iaload, 1) := by decide +kernel
theorem dL_law_535 : decode cL_law 535 = .ok (.aload_n 0, 1) := by decide +kernel
theorem dL_law_536 : decode cL_law 536 = .ok (.iload_n 3, 1) := by decide +kernel
theorem dL_law_537 : decode cL_law 537 = .ok (.iconst 2, 1) := by decide +kernel
theorem dL_law_538 : decode cL_law 538 = .ok (.iadd, 1) := by decide +kernel
theorem dL_law_539 : decode cL_law 539 = .ok (.iaload, 1) := by decide +kernel
theorem dL_law_540 : decode cL_law 540 = .ok (.invokevirtual 66, 3) := by decide +kernel
theorem dL_law_543 : decode cL_law 543 = .ok (.if_icmp .eq 393, 3) := by decide +kernel
theorem dL_law_546 : decode cL_law 546 = .ok (.iconst 0, 1) := by decide +kernel
theorem dL_law_547 : decode cL_law 547 = .ok (.ireturn, 1) := by decide +kernel
theorem dL_law_548 : decode cL_law 548 = .ok (.aload_n 1, 1) := by decide +kernel
theorem dL_law_549 : decode cL_law 549 = .ok (.aload_n 0, 1) := by decide +kernel
theorem dL_law_550 : decode cL_law 550 = .ok (.iload_n 3, 1) := by decide +kernel
theorem dL_law_551 : decode cL_law 551 = .ok (.iconst 1, 1) := by decide +kernel
theorem dL_law_552 : decode cL_law 552 = .ok (.iadd, 1) := by decide +kernel
theorem dL_law_553 : decode cL_law 553 = .ok (.iaload, 1) := by decide +kernel
theorem dL_law_554 : decode cL_law 554 = .ok (.aload_n 0, 1) := by decide +kernel
theorem dL_law_555 : decode cL_law 555 = .ok (.iload_n 3, 1) := by decide +kernel
theorem dL_law_556 : decode cL_law 556 = .ok (.iconst 2, 1) := by decide +kernel
theorem dL_law_557 : decode cL_law 557 = .ok (.iadd, 1) := by decide +kernel
theorem dL_law_558 : decode cL_law 558 = .ok (.iaload, 1) := by decide +kernel
theorem dL_law_559 : decode cL_law 559 = .ok (.aload_n 0, 1) := by decide +kernel
theorem dL_law_560 : decode cL_law 560 = .ok (.iload_n 3, 1) := by decide +kernel
theorem dL_law_561 : decode cL_law 561 = .ok (.iconst 3, 1) := by decide +kernel
theorem dL_law_562 : decode cL_law 562 = .ok (.iadd, 1) := by decide +kernel
theorem dL_law_563 : decode cL_law 563 = .ok (.iaload, 1) := by decide +kernel
theorem dL_law_564 : decode cL_law 564 = .ok (.invokevirtual 67, 3) := by decide +kernel
theorem dL_law_567 : decode cL_law 567 = .ok (.aload_n 2, 1) := by decide +kernel
theorem dL_law_568 : decode cL_law 568 = .ok (.aload_n 0, 1) := by decide +kernel
theorem dL_law_569 : decode cL_law 569 = .ok (.iload_n 3, 1) := by decide +kernel
theorem dL_law_570 : decode cL_law 570 = .ok (.iconst 1, 1) := by decide +kernel
theorem dL_law_571 : decode cL_law 571 = .ok (.iadd, 1) := by decide +kernel
theorem dL_law_572 : decode cL_law 572 = .ok (.iaload, 1) := by decide +kernel
theorem dL_law_573 : decode cL_law 573 = .ok (.aload_n 0, 1) := by decide +kernel
theorem dL_law_574 : decode cL_law 574 = .ok (.iload_n 3, 1) := by decide +kernel
theorem dL_law_575 : decode cL_law 575 = .ok (.iconst 2, 1) := by decide +kernel
theorem dL_law_576 : decode cL_law 576 = .ok (.iadd, 1) := by decide +kernel
theorem dL_law_577 : decode cL_law 577 = .ok (.iaload, 1) := by decide +kernel
theorem dL_law_578 : decode cL_law 578 = .ok (.aload_n 0, 1) := by decide +kernel
theorem dL_law_579 : decode cL_law 579 = .ok (.iload_n 3, 1) := by decide +kernel
theorem dL_law_580 : decode cL_law 580 = .ok (.iconst 3, 1) := by decide +kernel
theorem dL_law_581 : decode cL_law 581 = .ok (.iadd, 1) := by decide +kernel
theorem dL_law_582 : decode cL_law 582 = .ok (.iaload, 1) := by decide +kernel
theorem dL_law_583 : decode cL_law 583 = .ok (.invokevirtual 70, 3) := by decide +kernel
theorem dL_law_586 : decode cL_law 586 = .ok (.if_icmp .eq 350, 3) := by decide +kernel
theorem dL_law_589 : decode cL_law 589 = .ok (.iconst 0, 1) := by decide +kernel
theorem dL_law_590 : decode cL_law 590 = .ok (.ireturn, 1) := by decide +kernel
theorem dL_law_591 : decode cL_law 591 = .ok (.aload_n 1, 1) := by decide +kernel
theorem dL_law_592 : decode cL_law 592 = .ok (.aload_n 0, 1) := by decide +kernel
theorem dL_law_593 : decode cL_law 593 = .ok (.iload_n 3, 1) := by decide +kernel
theorem dL_law_594 : decode cL_law 594 = .ok (.iconst 1, 1) := by decide +kernel
theorem dL_law_595 : decode cL_law 595 = .ok (.iadd, 1) := by decide +kernel
theorem dL_law_596 : decode cL_law 596 = .ok (.iaload, 1) := by decide +kernel
theorem dL_law_597 : decode cL_law 597 = .ok (.aload_n 0, 1) := by decide +kernel
theorem dL_law_598 : decode cL_law 598 = .ok (.iload_n 3, 1) := by decide +kernel
theorem dL_law_599 : decode cL_law 599 = .ok (.iconst 2, 1) := by decide +kernel
theorem dL_law_600 : decode cL_law 600 = .ok (.iadd, 1) := by decide +kernel
theorem dL_law_601 : decode cL_law 601 = .ok (.iaload, 1) := by decide +kernel
theorem dL_law_602 : decode cL_law 602 = .ok (.aload_n 0, 1) := by decide +kernel
theorem dL_law_603 : decode cL_law 603 = .ok (.iload_n 3, 1) := by decide +kernel
theorem dL_law_604 : decode cL_law 604 = .ok (.iconst 3, 1) := by decide +kernel
theorem dL_law_605 : decode cL_law 605 = .ok (.iadd, 1) := by decide +kernel
theorem dL_law_606 : decode cL_law 606 = .ok (.iaload, 1) := by decide +kernel
theorem dL_law_607 : decode cL_law 607 = .ok (.ifCond .eq 7, 3) := by decide +kernel
theorem dL_law_610 : decode cL_law 610 = .ok (.iconst 1, 1) := by decide +kernel
theorem dL_law_611 : decode cL_law 611 = .ok (.goto 4, 3) := by decide +kernel
theorem dL_law_614 : decode cL_law 614 = .ok (.iconst 0, 1) := by decide +kernel
theorem dL_law_615 : decode cL_law 615 = .ok (.invokevirtual 71, 3) := by decide +kernel
theorem dL_law_618 : decode cL_law 618 = .ok (.aload_n 2, 1) := by decide +kernel
theorem dL_law_619 : decode cL_law 619 = .ok (.aload_n 0, 1) := by decide +kernel
theorem dL_law_620 : decode cL_law 620 = .ok (.iload_n 3, 1) := by decide +kernel
theorem dL_law_621 : decode cL_law 621 = .ok (.iconst 1, 1) := by decide +kernel
theorem dL_law_622 : decode cL_law 622 = .ok (.iadd, 1) := by decide +kernel
theorem dL_law_623 : decode cL_law 623 = .ok (.iaload, 1) := by decide +kernel
theorem dL_law_624 : decode cL_law 624 = .ok (.aload_n 0, 1) := by decide +kernel
theorem dL_law_625 : decode cL_law 625 = .ok (.iload_n 3, 1) := by decide +kernel
theorem dL_law_626 : decode cL_law 626 = .ok (.iconst 2, 1) := by decide +kernel
theorem dL_law_627 : decode cL_law 627 = .ok (.iadd, 1) := by decide +kernel
theorem dL_law_628 : decode cL_law 628 = .ok (.iaload, 1) := by decide +kernel
theorem dL_law_629 : decode cL_law 629 = .ok (.aload_n 0, 1) := by decide +kernel
theorem dL_law_630 : decode cL_law 630 = .ok (.iload_n 3, 1) := by decide +kernel
theorem dL_law_631 : decode cL_law 631 = .ok (.iconst 3, 1) := by decide +kernel
theorem dL_law_632 : decode cL_law 632 = .ok (.iadd, 1) := by decide +kernel
theorem dL_law_633 : decode cL_law 633 = .ok (.iaload, 1) := by decide +kernel
theorem dL_law_634 : decode cL_law 634 = .ok (.ifCond .eq 7, 3) := by decide +kernel
theorem dL_law_637 : decode cL_law 637 = .ok (.iconst 1, 1) := by decide +kernel
theorem dL_law_638 : decode cL_law 638 = .ok (.goto 4, 3) := by decide +kernel
theorem dL_law_641 : decode cL_law 641 = .ok (.iconst 0, 1) := by decide +kernel
theorem dL_law_642 : decode cL_law 642 = .ok (.invokevirtual 75, 3) := by decide +kernel
theorem dL_law_645 : decode cL_law 645 = .ok (.if_icmp .eq 291, 3) := by decide +kernel
theorem dL_law_648 : decode cL_law 648 = .ok (.iconst 0, 1) := by decide +kernel
theorem dL_law_649 : decode cL_law 649 = .ok (.ireturn, 1) := by decide +kernel
theorem dL_law_650 : decode cL_law 650 = .ok (.aload_n 1, 1) := by decide +kernel
theorem dL_law_651 : decode cL_law 651 = .ok (.aload_n 0, 1) := by decide +kernel
theorem dL_law_652 : decode cL_law 652 = .ok (.iload_n 3, 1) := by decide +kernel
theorem dL_law_653 : decode cL_law 653 = .ok (.iconst 1, 1) := by decide +kernel
theorem dL_law_654 : decode cL_law 654 = .ok (.iadd, 1) := by decide +kernel
theorem dL_law_655 : decode cL_law 655 = .ok (.iaload, 1) := by decide +kernel
theorem dL_law_656 : decode cL_law 656 = .ok (.invokevirtual 76, 3) := by decide +kernel
theorem dL_law_659 : decode cL_law 659 = .ok (.aload_n 2, 1) := by decide +kernel
theorem dL_law_660 : decode cL_law 660 = .ok (.aload_n 0, 1) := by decide +kernel
theorem dL_law_661 : decode cL_law 661 = .ok (.iload_n 3, 1) := by decide +kernel
theorem dL_law_662 : decode cL_law 662 = .ok (.iconst 1, 1) := by decide +kernel
theorem dL_law_663 : decode cL_law 663 = .ok (.iadd, 1) := by decide +kernel
theorem dL_law_664 : decode cL_law 664 = .ok (.iaload, 1) := by decide +kernel
theorem dL_law_665 : decode cL_law 665 = .ok (.invokevirtual 79, 3) := by decide +kernel
theorem dL_law_668 : decode cL_law 668 = .ok (.if_icmp .eq 268, 3) := by decide +kernel
theorem dL_law_671 : decode cL_law 671 = .ok (.iconst 0, 1) := by decide +kernel
theorem dL_law_672 : decode cL_law 672 = .ok (.ireturn, 1) := by decide +kernel
theorem dL_law_673 : decode cL_law 673 = .ok (.aload_n 1, 1) := by decide +kernel
theorem dL_law_674 : decode cL_law 674 = .ok (.aload_n 0, 1) := by decide +kernel
theorem dL_law_675 : decode cL_law 675 = .ok (.iload_n 3, 1) := by decide +kernel
theorem dL_law_676 : decode cL_law 676 = .ok (.iconst 1, 1) := by decide +kernel
theorem dL_law_677 : decode cL_law 677 = .ok (.iadd, 1) := by decide +kernel
theorem dL_law_678 : decode cL_law 678 = .ok (.iaload, 1) := by decide +kernel
theorem dL_law_679 : decode cL_law 679 = .ok (.invokevirtual 80, 3) := by decide +kernel
theorem dL_law_682 : decode cL_law 682 = .ok (.aload_n 2, 1) := by decide +kernel
theorem dL_law_683 : decode cL_law 683 = .ok (.aload_n 0, 1) := by decide +kernel
theorem dL_law_684 : decode cL_law 684 = .ok (.iload_n 3, 1) := by decide +kernel
theorem dL_law_685 : decode cL_law 685 = .ok (.iconst 1, 1) := by decide +kernel
theorem dL_law_686 : decode cL_law 686 = .ok (.iadd, 1) := by decide +kernel
theorem dL_law_687 : decode cL_law 687 = .ok (.iaload, 1) := by decide +kernel
theorem dL_law_688 : decode cL_law 688 = .ok (.invokevirtual 83, 3) := by decide +kernel
theorem dL_law_691 : decode cL_law 691 = .ok (.if_icmp .eq 245, 3) := by decide +kernel
theorem dL_law_694 : decode cL_law 694 = .ok (.iconst 0, 1) := by decide +kernel
theorem dL_law_695 : decode cL_law 695 = .ok (.ireturn, 1) := by decide +kernel
theorem dL_law_696 : decode cL_law 696 = .ok (.aload_n 1, 1) := by decide +kernel
theorem dL_law_697 : decode cL_law 697 = .ok (.invokevirtual 84, 3) := by decide +kernel
theorem dL_law_700 : decode cL_law 700 = .ok (.aload_n 2, 1) := by decide +kernel
theorem dL_law_701 : decode cL_law 701 = .ok (.invokevirtual 87, 3) := by decide +kernel
theorem dL_law_704 : decode cL_law 704 = .ok (.if_icmp .eq 232, 3) := by decide +kernel
theorem dL_law_707 : decode cL_law 707 = .ok (.iconst 0, 1) := by decide +kernel
theorem dL_law_708 : decode cL_law 708 = .ok (.ireturn, 1) := by decide +kernel
theorem dL_law_709 : decode cL_law 709 = .ok (.aload_n 1, 1) := by decide +kernel
theorem dL_law_710 : decode cL_law 710 = .ok (.aload_n 0, 1) := by decide +kernel
theorem dL_law_711 : decode cL_law 711 = .ok (.iload_n 3, 1) := by decide +kernel
theorem dL_law_712 : decode cL_law 712 = .ok (.iconst 1, 1) := by decide +kernel
theorem dL_law_713 : decode cL_law 713 = .ok (.iadd, 1) := by decide +kernel
theorem dL_law_714 : decode cL_law 714 = .ok (.iaload, 1) := by decide +kernel
theorem dL_law_715 : decode cL_law 715 = .ok (.aload_n 0, 1) := by decide +kernel
theorem dL_law_716 : decode cL_law 716 = .ok (.iload_n 3, 1) := by decide +kernel
theorem dL_law_717 : decode cL_law 717 = .ok (.iconst 2, 1) := by decide +kernel
theorem dL_law_718 : decode cL_law 718 = .ok (.iadd, 1) := by decide +kernel
theorem dL_law_719 : decode cL_law 719 = .ok (.iaload, 1) := by decide +kernel
theorem dL_law_720 : decode cL_law 720 = .ok (.invokevirtual 88, 3) := by decide +kernel
theorem dL_law_723 : decode cL_law 723 = .ok (.aload_n 2, 1) := by decide +kernel
theorem dL_law_724 : decode cL_law 724 = .ok (.aload_n 0, 1) := by decide +kernel
theorem dL_law_725 : decode cL_law 725 = .ok (.iload_n 3, 1) := by decide +kernel
theorem dL_law_726 : decode cL_law 726 = .ok (.iconst 1, 1) := by decide +kernel
theorem dL_law_727 : decode cL_law 727 = .ok (.iadd, 1) := by decide +kernel
theorem dL_law_728 : decode cL_law 728 = .ok (.iaload, 1) := by decide +kernel
theorem dL_law_729 : decode cL_law 729 = .ok (.aload_n 0, 1) := by decide +kernel
theorem dL_law_730 : decode cL_law 730 = .ok (.iload_n 3, 1) := by decide +kernel
theorem dL_law_731 : decode cL_law 731 = .ok (.iconst 2, 1) := by decide +kernel
theorem dL_law_732 : decode cL_law 732 = .ok (.iadd, 1) := by decide +kernel
theorem dL_law_733 : decode cL_law 733 = .ok (.iaload, 1) := by decide +kernel
theorem dL_law_734 : decode cL_law 734 = .ok (.invokevirtual 91, 3) := by decide +kernel
theorem dL_law_737 : decode cL_law 737 = .ok (.if_icmp .eq 199, 3) := by decide +kernel
theorem dL_law_740 : decode cL_law 740 = .ok (.iconst 0, 1) := by decide +kernel
theorem dL_law_741 : decode cL_law 741 = .ok (.ireturn, 1) := by decide +kernel
theorem dL_law_742 : decode cL_law 742 = .ok (.aload_n 1, 1) := by decide +kernel
theorem dL_law_743 : decode cL_law 743 = .ok (.aload_n 0, 1) := by decide +kernel
theorem dL_law_744 : decode cL_law 744 = .ok (.iload_n 3, 1) := by decide +kernel
theorem dL_law_745 : decode cL_law 745 = .ok (.iconst 1, 1) := by decide +kernel
theorem dL_law_746 : decode cL_law 746 = .ok (.iadd, 1) := by decide +kernel
theorem dL_law_747 : decode cL_law 747 = .ok (.iaload, 1) := by decide +kernel
theorem dL_law_748 : decode cL_law 748 = .ok (.invokevirtual 92, 3) := by decide +kernel
theorem dL_law_751 : decode cL_law 751 = .ok (.aload_n 2, 1) := by decide +kernel
theorem dL_law_752 : decode cL_law 752 = .ok (.aload_n 0, 1) := by decide +kernel
theorem dL_law_753 : decode cL_law 753 = .ok (.iload_n 3, 1) := by decide +kernel
theorem dL_law_754 : decode cL_law 754 = .ok (.iconst 1, 1) := by decide +kernel
theorem dL_law_755 : decode cL_law 755 = .ok (.iadd, 1) := by decide +kernel
theorem dL_law_756 : decode cL_law 756 = .ok (.iaload, 1) := by decide +kernel
theorem dL_law_757 : decode cL_law 757 = .ok (.invokevirtual 95, 3) := by decide +kernel
theorem dL_law_760 : decode cL_law 760 = .ok (.if_icmp .eq 176, 3) := by decide +kernel
theorem dL_law_763 : decode cL_law 763 = .ok (.iconst 0, 1) := by decide +kernel
theorem dL_law_764 : decode cL_law 764 = .ok (.ireturn, 1) := by decide +kernel
theorem dL_law_765 : decode cL_law 765 = .ok (.aload_n 1, 1) := by decide +kernel
theorem dL_law_766 : decode cL_law 766 = .ok (.aload_n 0, 1) := by decide +kernel
theorem dL_law_767 : decode cL_law 767 = .ok (.iload_n 3, 1) := by decide +kernel
theorem dL_law_768 : decode cL_law 768 = .ok (.iconst 1, 1) := by decide +kernel
theorem dL_law_769 : decode cL_law 769 = .ok (.iadd, 1) := by decide +kernel
theorem dL_law_770 : decode cL_law 770 = .ok (.iaload, 1) := by decide +kernel
theorem dL_law_771 : decode cL_law 771 = .ok (.invokevirtual 96, 3) := by decide +kernel
theorem dL_law_774 : decode cL_law 774 = .ok (.aload_n 2, 1) := by decide +kernel
theorem dL_law_775 : decode cL_law 775 = .ok (.aload_n 0, 1) := by decide +kernel
theorem dL_law_776 : decode cL_law 776 = .ok (.iload_n 3, 1) := by decide +kernel
theorem dL_law_777 : decode cL_law 777 = .ok (.iconst 1, 1) := by decide +kernel
theorem dL_law_778 : decode cL_law 778 = .ok (.iadd, 1) := by decide +kernel
theorem dL_law_779 : decode cL_law 779 = .ok (.iaload, 1) := by decide +kernel
theorem dL_law_780 : decode cL_law 780 = .ok (.invokevirtual 99, 3) := by decide +kernel
theorem dL_law_783 : decode cL_law 783 = .ok (.if_icmp .eq 153, 3) := by decide +kernel
theorem dL_law_786 : decode cL_law 786 = .ok (.iconst 0, 1) := by decide +kernel
theorem dL_law_787 : decode cL_law 787 = .ok (.ireturn, 1) := by decide +kernel
theorem dL_law_788 : decode cL_law 788 = .ok (.aload_n 1, 1) := by decide +kernel
theorem dL_law_789 : decode cL_law 789 = .ok (.aload_n 0, 1) := by decide +kernel
theorem dL_law_790 : decode cL_law 790 = .ok (.iload_n 3, 1) := by decide +kernel
theorem dL_law_791 : decode cL_law 791 = .ok (.iconst 1, 1) := by decide +kernel
theorem dL_law_792 : decode cL_law 792 = .ok (.iadd, 1) := by decide +kernel
theorem dL_law_793 : decode cL_law 793 = .ok (.iaload, 1) := by decide +kernel
theorem dL_law_794 : decode cL_law 794 = .ok (.aload_n 0, 1) := by decide +kernel
theorem dL_law_795 : decode cL_law 795 = .ok (.iload_n 3, 1) := by decide +kernel
theorem dL_law_796 : decode cL_law 796 = .ok (.iconst 2, 1) := by decide +kernel
theorem dL_law_797 : decode cL_law 797 = .ok (.iadd, 1) := by decide +kernel
theorem dL_law_798 : decode cL_law 798 = .ok (.iaload, 1) := by decide +kernel
theorem dL_law_799 : decode cL_law 799 = .ok (.aload_n 0, 1) := by decide +kernel
theorem dL_law_800 : decode cL_law 800 = .ok (.iload_n 3, 1) := by decide +kernel
theorem dL_law_801 : decode cL_law 801 = .ok (.iconst 3, 1) := by decide +kernel
theorem dL_law_802 : decode cL_law 802 = .ok (.iadd, 1) := by decide +kernel
theorem dL_law_803 : decode cL_law 803 = .ok (.iaload, 1) := by decide +kernel
theorem dL_law_804 : decode cL_law 804 = .ok (.invokevirtual 100, 3) := by decide +kernel
theorem dL_law_807 : decode cL_law 807 = .ok (.aload_n 2, 1) := by decide +kernel
theorem dL_law_808 : decode cL_law 808 = .ok (.aload_n 0, 1) := by decide +kernel
theorem dL_law_809 : decode cL_law 809 = .ok (.iload_n 3, 1) := by decide +kernel
theorem dL_law_810 : decode cL_law 810 = .ok (.iconst 1, 1) := by decide +kernel
theorem dL_law_811 : decode cL_law 811 = .ok (.iadd, 1) := by decide +kernel
theorem dL_law_812 : decode cL_law 812 = .ok (.iaload, 1) := by decide +kernel
theorem dL_law_813 : decode cL_law 813 = .ok (.aload_n 0, 1) := by decide +kernel
theorem dL_law_814 : decode cL_law 814 = .ok (.iload_n 3, 1) := by decide +kernel
theorem dL_law_815 : decode cL_law 815 = .ok (.iconst 2, 1) := by decide +kernel
theorem dL_law_816 : decode cL_law 816 = .ok (.iadd, 1) := by decide +kernel
theorem dL_law_817 : decode cL_law 817 = .ok (.iaload, 1) := by decide +kernel
theorem dL_law_818 : decode cL_law 818 = .ok (.aload_n 0, 1) := by decide +kernel
theorem dL_law_819 : decode cL_law 819 = .ok (.iload_n 3, 1) := by decide +kernel
theorem dL_law_820 : decode cL_law 820 = .ok (.iconst 3, 1) := by decide +kernel
theorem dL_law_821 : decode cL_law 821 = .ok (.iadd, 1) := by decide +kernel
theorem dL_law_822 : decode cL_law 822 = .ok (.iaload, 1) := by decide +kernel
theorem dL_law_823 : decode cL_law 823 = .ok (.invokevirtual 103, 3) := by decide +kernel
theorem dL_law_826 : decode cL_law 826 = .ok (.if_icmp .eq 110, 3) := by decide +kernel
theorem dL_law_829 : decode cL_law 829 = .ok (.iconst 0, 1) := by decide +kernel
theorem dL_law_830 : decode cL_law 830 = .ok (.ireturn, 1) := by decide +kernel
theorem dL_law_831 : decode cL_law 831 = .ok (.aload_n 1, 1) := by decide +kernel
theorem dL_law_832 : decode cL_law 832 = .ok (.invokevirtual 104, 3) := by decide +kernel
theorem dL_law_835 : decode cL_law 835 = .ok (.aload_n 2, 1) := by decide +kernel
theorem dL_law_836 : decode cL_law 836 = .ok (.invokevirtual 107, 3) := by decide +kernel
theorem dL_law_839 : decode cL_law 839 = .ok (.if_icmp .eq 97, 3) := by decide +kernel
theorem dL_law_842 : decode cL_law 842 = .ok (.iconst 0, 1) := by decide +kernel
theorem dL_law_843 : decode cL_law 843 = .ok (.ireturn, 1) := by decide +kernel
theorem dL_law_844 : decode cL_law 844 = .ok (.aload_n 1, 1) := by decide +kernel
theorem dL_law_845 : decode cL_law 845 = .ok (.aload_n 0, 1) := by decide +kernel
theorem dL_law_846 : decode cL_law 846 = .ok (.iload_n 3, 1) := by decide +kernel
theorem dL_law_847 : decode cL_law 847 = .ok (.iconst 1, 1) := by decide +kernel
theorem dL_law_848 : decode cL_law 848 = .ok (.iadd, 1) := by decide +kernel
theorem dL_law_849 : decode cL_law 849 = .ok (.iaload, 1) := by decide +kernel
theorem dL_law_850 : decode cL_law 850 = .ok (.invokevirtual 108, 3) := by decide +kernel
theorem dL_law_853 : decode cL_law 853 = .ok (.aload_n 2, 1) := by decide +kernel
theorem dL_law_854 : decode cL_law 854 = .ok (.aload_n 0, 1) := by decide +kernel
theorem dL_law_855 : decode cL_law 855 = .ok (.iload_n 3, 1) := by decide +kernel
theorem dL_law_856 : decode cL_law 856 = .ok (.iconst 1, 1) := by decide +kernel
theorem dL_law_857 : decode cL_law 857 = .ok (.iadd, 1) := by decide +kernel
theorem dL_law_858 : decode cL_law 858 = .ok (.iaload, 1) := by decide +kernel
theorem dL_law_859 : decode cL_law 859 = .ok (.invokevirtual 111, 3) := by decide +kernel
theorem dL_law_862 : decode cL_law 862 = .ok (.if_icmp .eq 74, 3) := by decide +kernel
theorem dL_law_865 : decode cL_law 865 = .ok (.iconst 0, 1) := by decide +kernel
theorem dL_law_866 : decode cL_law 866 = .ok (.ireturn, 1) := by decide +kernel
theorem dL_law_867 : decode cL_law 867 = .ok (.aload_n 1, 1) := by decide +kernel
theorem dL_law_868 : decode cL_law 868 = .ok (.aload_n 0, 1) := by decide +kernel
theorem dL_law_869 : decode cL_law 869 = .ok (.iload_n 3, 1) := by decide +kernel
theorem dL_law_870 : decode cL_law 870 = .ok (.iconst 1, 1) := by decide +kernel
theorem dL_law_871 : decode cL_law 871 = .ok (.iadd, 1) := by decide +kernel
theorem dL_law_872 : decode cL_law 872 = .ok (.iaload, 1) := by decide +kernel
theorem dL_law_873 : decode cL_law 873 = .ok (.invokevirtual 112, 3) := by decide +kernel
theorem dL_law_876 : decode cL_law 876 = .ok (.aload_n 2, 1) := by decide +kernel
theorem dL_law_877 : decode cL_law 877 = .ok (.aload_n 0, 1) := by decide +kernel
theorem dL_law_878 : decode cL_law 878 = .ok (.iload_n 3, 1) := by decide +kernel
theorem dL_law_879 : decode cL_law 879 = .ok (.iconst 1, 1) := by decide +kernel
theorem dL_law_880 : decode cL_law 880 = .ok (.iadd, 1) := by decide +kernel
theorem dL_law_881 : decode cL_law 881 = .ok (.iaload, 1) := by decide +kernel
theorem dL_law_882 : decode cL_law 882 = .ok (.invokevirtual 115, 3) := by decide +kernel
theorem dL_law_885 : decode cL_law 885 = .ok (.if_icmp .eq 51, 3) := by decide +kernel
theorem dL_law_888 : decode cL_law 888 = .ok (.iconst 0, 1) := by decide +kernel
theorem dL_law_889 : decode cL_law 889 = .ok (.ireturn, 1) := by decide +kernel
theorem dL_law_890 : decode cL_law 890 = .ok (.aload_n 1, 1) := by decide +kernel
theorem dL_law_891 : decode cL_law 891 = .ok (.aload_n 0, 1) := by decide +kernel
theorem dL_law_892 : decode cL_law 892 = .ok (.iload_n 3, 1) := by decide +kernel
theorem dL_law_893 : decode cL_law 893 = .ok (.iconst 1, 1) := by decide +kernel
theorem dL_law_894 : decode cL_law 894 = .ok (.iadd, 1) := by decide +kernel
theorem dL_law_895 : decode cL_law 895 = .ok (.iaload, 1) := by decide +kernel
theorem dL_law_896 : decode cL_law 896 = .ok (.invokevirtual 116, 3) := by decide +kernel
theorem dL_law_899 : decode cL_law 899 = .ok (.aload_n 2, 1) := by decide +kernel
theorem dL_law_900 : decode cL_law 900 = .ok (.aload_n 0, 1) := by decide +kernel
theorem dL_law_901 : decode cL_law 901 = .ok (.iload_n 3, 1) := by decide +kernel
theorem dL_law_902 : decode cL_law 902 = .ok (.iconst 1, 1) := by decide +kernel
theorem dL_law_903 : decode cL_law 903 = .ok (.iadd, 1) := by decide +kernel
theorem dL_law_904 : decode cL_law 904 = .ok (.iaload, 1) := by decide +kernel
theorem dL_law_905 : decode cL_law 905 = .ok (.invokevirtual 119, 3) := by decide +kernel
theorem dL_law_908 : decode cL_law 908 = .ok (.if_icmp .eq 28, 3) := by decide +kernel
theorem dL_law_911 : decode cL_law 911 = .ok (.iconst 0, 1) := by decide +kernel
theorem dL_law_912 : decode cL_law 912 = .ok (.ireturn, 1) := by decide +kernel
theorem dL_law_913 : decode cL_law 913 = .ok (.aload_n 1, 1) := by decide +kernel
theorem dL_law_914 : decode cL_law 914 = .ok (.aload_n 0, 1) := by decide +kernel
theorem dL_law_915 : decode cL_law 915 = .ok (.iload_n 3, 1) := by decide +kernel
theorem dL_law_916 : decode cL_law 916 = .ok (.iconst 1, 1) := by decide +kernel
theorem dL_law_917 : decode cL_law 917 = .ok (.iadd, 1) := by decide +kernel
theorem dL_law_918 : decode cL_law 918 = .ok (.iaload, 1) := by decide +kernel
theorem dL_law_919 : decode cL_law 919 = .ok (.invokevirtual 120, 3) := by decide +kernel
theorem dL_law_922 : decode cL_law 922 = .ok (.aload_n 2, 1) := by decide +kernel
theorem dL_law_923 : decode cL_law 923 = .ok (.aload_n 0, 1) := by decide +kernel
theorem dL_law_924 : decode cL_law 924 = .ok (.iload_n 3, 1) := by decide +kernel
theorem dL_law_925 : decode cL_law 925 = .ok (.iconst 1, 1) := by decide +kernel
theorem dL_law_926 : decode cL_law 926 = .ok (.iadd, 1) := by decide +kernel
theorem dL_law_927 : decode cL_law 927 = .ok (.iaload, 1) := by decide +kernel
theorem dL_law_928 : decode cL_law 928 = .ok (.invokevirtual 123, 3) := by decide +kernel
theorem dL_law_931 : decode cL_law 931 = .ok (.if_icmp .eq 5, 3) := by decide +kernel
theorem dL_law_934 : decode cL_law 934 = .ok (.iconst 0, 1) := by decide +kernel
theorem dL_law_935 : decode cL_law 935 = .ok (.ireturn, 1) := by decide +kernel
theorem dL_law_936 : decode cL_law 936 = .ok (.iinc 3 6, 3) := by decide +kernel
theorem dL_law_939 : decode cL_law 939 = .ok (.goto (-921), 3) := by decide +kernel
theorem dL_law_942 : decode cL_law 942 = .ok (.iconst 1, 1) := by decide +kernel
theorem dL_law_943 : decode cL_law 943 = .ok (.ireturn, 1) := by decide +kernel
end
section
theorem ex_lt {H : ex_H} {a : Nat} {c : ex_C} (h : H[a]? = some c) : a < H.length := (List.getElem?_eq_some_iff.mp h).1
theorem ex_eq {H : ex_H} {a : Nat} {c : ex_C} (h : a < H.length) : (H.set a c)[a]? = some c := List.getElem?_set_self h
theorem ex_ne {H : ex_H} {a k : Nat} {c c0 : ex_C} (h : H[k]? = some c0) (hn : a ≠ k) : (H.set a c)[k]? = some c0 := (List.getElem?_set_ne hn).trans h
theorem ex_rfv (r : Option Nat) : va_rf r = .null ∨ (∃ a, va_rf r = .ref a) ∨ ∃ a, va_rf r = .retAddr a := by
  cases r with
  | none => exact Or.inl rfl
  | some a => exact Or.inr (Or.inl ⟨a, rfl⟩)
theorem ex_rfs (r : Option Nat) : va_rf r = .null ∨ ∃ a, va_rf r = .ref a := by
  cases r with
  | none => exact Or.inl rfl
  | some a => exact Or.inr ⟨a, rfl⟩
/-- the answer of a method that changes nothing -/
abbrev ex_r (H : ex_H) (v : Value) : ex_H → Option Value → Prop := fun H' r => H = H' ∧ r = some v
theorem ex_inc (i : Nat) : nI i + Int32.ofInt 1 = nI (i + 1) := nI_1 i
theorem nI_z {a : Nat} (h : a < 2 ^ 31) : nI a = 0 ↔ a = 0 := by
  rw [← nI_0]
  exact nI_eq h (by decide)
/-- a loop's state: F 0, F 1 .. one after another -/
def fl {σ : Type} (F : Nat → σ → σ) : Nat → σ → σ
  | 0, s => s
  | n + 1, s => F n (fl F n s)
theorem fl_down {σ : Type} {F : Nat → σ → σ} {P : Nat → σ → Prop} (n : Nat) (s0 : σ) (hs : ∀ i s, i < n → s = fl F i s0 → P (i + 1) (F i s) → P i s) (he : P n (fl F n s0)) : P 0 s0 := by
  have key : ∀ k, k ≤ n → P k (fl F k s0) → P 0 s0 := by
    intro k
    induction k with
    | zero => intro _ h; exact h
    | succ k ih => intro hk h; exact ih (by omega) (hs k _ (by omega) rfl h)
  exact key n (Nat.le_refl n) he
theorem fl_congr {σ : Type} {F G : Nat → σ → σ} {n : Nat} (h : ∀ i s, i < n → F i s = G i s) (s : σ) : fl F n s = fl G n s := by
  induction n with
  | zero => rfl
  | succ n ih => show F n (fl F n s) = G n (fl G n s); rw [ih (fun i s hi => h i s (by omega)), h n _ (by omega)]
theorem fl_add {σ : Type} (F : Nat → σ → σ) (a b : Nat) (s : σ) : fl F (a + b) s = fl (fun i => F (a + i)) b (fl F a s) := by
  induction b with
  | zero => rfl
  | succ b ih => show F (a + b) (fl F (a + b) s) = _; rw [ih]; rfl
/-- a loop over w * h dots is one over h rows of w -/
theorem fl_rows {σ : Type} (F : Nat → σ → σ) (w h : Nat) (s : σ) : fl F (w * h) s = fl (fun j s => fl (fun i => F (j * w + i)) w s) h s := by
  induction h with
  | zero => rfl
  | succ h ih => rw [Nat.mul_succ, fl_add, ih]; show _ = fl _ w _; rw [Nat.mul_comm w h]
theorem fl_inv {σ : Type} {F : Nat → σ → σ} (P : Nat → σ → Prop) (n : Nat) (s0 : σ) (h0 : P 0 s0) (hs : ∀ i s, i < n → P i s → P (i + 1) (F i s)) : P n (fl F n s0) := by
  induction n with
  | zero => exact h0
  | succ n ih => exact hs n _ (Nat.lt_succ_self n) (ih (fun i s hi => hs i s (by omega)))
/-- two heaps: the cells at L, and new ones, may differ -/
def ex_ch (H H' : ex_H) (L : List Nat) : Prop := H.length ≤ H'.length ∧ ∀ k, k < H.length → k ∉ L → H'[k]? = H[k]?
theorem ex_ch.rf {H : ex_H} {L : List Nat} : ex_ch H H L := ⟨Nat.le_refl _, fun _ _ _ => rfl⟩
theorem ex_ch.at {H H' : ex_H} {L : List Nat} {k : Nat} {c : ex_C} (h : ex_ch H H' L) (hk : H[k]? = some c) (hn : k ∉ L) : H'[k]? = some c := (h.2 k (List.getElem?_eq_some_iff.mp hk).1 hn).trans hk
theorem ex_ch.set {H H' : ex_H} {L : List Nat} {a : Nat} {c : ex_C} (h : ex_ch H H' L) (ha : a ∈ L) : ex_ch H (H'.set a c) L := ⟨by rw [List.length_set]; exact h.1, fun k hk hn => by
  rw [List.getElem?_set_ne (fun e => hn (by rw [← e]; exact ha))]
  exact h.2 k hk hn⟩
theorem ex_ch.tr {H H' H'' : ex_H} {L L' : List Nat} (h : ex_ch H H' L) (h' : ex_ch H' H'' L') (hs : ∀ k ∈ L', k ∈ L ∨ H.length ≤ k) : ex_ch H H'' L := ⟨Nat.le_trans h.1 h'.1, fun k hk hn => by
  rw [h'.2 k (Nat.lt_of_lt_of_le hk h.1) (fun e => (hs k e).elim hn (fun z => absurd hk (Nat.not_lt.mpr z)))]
  exact h.2 k hk hn⟩
theorem ex_ch.sub {H H' : ex_H} {L L' : List Nat} (h : ex_ch H H' L') (hs : ∀ k ∈ L', k ∈ L ∨ H.length ≤ k) : ex_ch H H' L := ex_ch.rf.tr h hs
theorem ex_ch.app {H H' : ex_H} {L : List Nat} {c : ex_C} (h : ex_ch H H' L) : ex_ch H (H' ++ [c]) L := ⟨by rw [List.length_append]; have := h.1; omega, fun k hk hn => by
  rw [List.getElem?_append_left (Nat.lt_of_lt_of_le hk h.1)]
  exact h.2 k hk hn⟩
end
section
theorem sp_within_y {d : Nat} {H : ex_H} {x l g : Int32} (h1 : l ≤ x) (h2 : x ≤ g) : ex_Met mX9_within d 0 0 H [.int x, .int l, .int g] (ex_r H (.int (nI 1))) := by
  refine ex_meth [(0, .int x), (1, .int l), (2, .int g)] rfl rfl rfl (fun b => Nat.le_of_ble_eq_true rfl) ?_
  refine ew_iload_n (M := mX9_within) dX9_within_0 rfl ?_
  refine ew_iload_n (M := mX9_within) dX9_within_1 rfl ?_
  refine ew_icmp_gt (M := mX9_within) (tgt := 14) dX9_within_2 rfl (fun h => absurd h (Int32.not_lt.mpr h1)) (fun _ => ?_)
  refine ew_iload_n (M := mX9_within) dX9_within_5 rfl ?_
  refine ew_iload_n (M := mX9_within) dX9_within_6 rfl ?_
  refine ew_icmp_gt (M := mX9_within) (tgt := 14) dX9_within_7 rfl (fun h => absurd h (Int32.not_lt.mpr h2)) (fun _ => ?_)
  refine ew_iconst (M := mX9_within) dX9_within_10 (v := nI 1) (by decide) ?_
  refine ew_goto (M := mX9_within) (tgt := 15) dX9_within_11 rfl ?_
  refine ew_iret (M := mX9_within) dX9_within_15 rfl (by first | rfl | decide) (Nat.le_refl _) (Nat.le_refl _) ?_
  exact ⟨rfl, rfl⟩
theorem sp_within_n {d : Nat} {H : ex_H} {x l g : Int32} (h : ¬ (l ≤ x ∧ x ≤ g)) : ex_Met mX9_within d 0 0 H [.int x, .int l, .int g] (ex_r H (.int (nI 0))) := by
  refine ex_meth [(0, .int x), (1, .int l), (2, .int g)] rfl rfl rfl (fun b => Nat.le_of_ble_eq_true rfl) ?_
  refine ew_iload_n (M := mX9_within) dX9_within_0 rfl ?_
  refine ew_iload_n (M := mX9_within) dX9_within_1 rfl ?_
  refine ew_icmp_gt (M := mX9_within) (tgt := 14) dX9_within_2 rfl (fun c2 => ?_) (fun c2 => ?_)
  · refine ew_iconst (M := mX9_within) dX9_within_14 (v := nI 0) (by decide) ?_
    refine ew_iret (M := mX9_within) dX9_within_15 rfl (by first | rfl | decide) (Nat.le_refl _) (Nat.le_refl _) ?_
    exact ⟨rfl, rfl⟩
  · refine ew_iload_n (M := mX9_within) dX9_within_5 rfl ?_
    refine ew_iload_n (M := mX9_within) dX9_within_6 rfl ?_
    refine ew_icmp_gt (M := mX9_within) (tgt := 14) dX9_within_7 rfl (fun c7 => ?_) (fun c7 => ?_)
    · refine ew_iconst (M := mX9_within) dX9_within_14 (v := nI 0) (by decide) ?_
      refine ew_iret (M := mX9_within) dX9_within_15 rfl (by first | rfl | decide) (Nat.le_refl _) (Nat.le_refl _) ?_
      exact ⟨rfl, rfl⟩
    · exact absurd ⟨Int32.not_lt.mp c2, Int32.not_lt.mp c7⟩ h
/-- a picture's cells: the object at p, its greys at p + 1, its masks at p + 2 -/
def pi_at (H : ex_H) (p w h : Nat) (gs ms : Nat → Int32) : Prop := H[p]? = some (ob 4 [.int (nI w), .int (nI h), .ref (p + 1), .ref (p + 2)]) ∧ H[p + 1]? = some (ar .int 80 gs) ∧ H[p + 2]? = some (ar .boolean 80 ms)
def pi_sz (w h : Nat) : Prop := 1 ≤ w ∧ w ≤ 10 ∧ 1 ≤ h ∧ h ≤ 8
/-- the picture w by h with the greys g and the masks m, by the dots' numbers -/
def pi_ok (w h : Nat) (g m : Nat → Nat) : Prop := pi_sz w h ∧ ∀ k, k < w * h → g k < 256 ∧ m k < 2
def pi_ct (w h : Nat) (g m : Nat → Nat) (gs ms : Nat → Int32) : Prop := ∀ k, k < w * h → gs k = nI (g k) ∧ ms k = nI (m k)
def pi_is (H : ex_H) (p w h : Nat) (g m : Nat → Nat) : Prop := pi_ok w h g m ∧ ∃ gs ms, pi_at H p w h gs ms ∧ pi_ct w h g m gs ms
theorem pi_lt {w h i j : Nat} (hi : i < w) (hj : j < h) : j * w + i < w * h := by
  have a1 : (j + 1) * w ≤ h * w := Nat.mul_le_mul_right w hj
  rw [Nat.succ_mul, Nat.mul_comm h w] at a1
  omega
theorem pi_80 {w h : Nat} (hz : pi_sz w h) : w * h ≤ 80 := by
  obtain ⟨h1, h2, h3, h4⟩ := hz
  exact Nat.le_trans (Nat.mul_le_mul h2 h4) (by decide)
theorem pi_at.ch {H H' : ex_H} {L : List Nat} {p w h : Nat} {gs ms : Nat → Int32} (hc : ex_ch H H' L) (hp : pi_at H p w h gs ms) (h0 : p ∉ L) (h1 : p + 1 ∉ L) (h2 : p + 2 ∉ L) : pi_at H' p w h gs ms := ⟨hc.at hp.1 h0, hc.at hp.2.1 h1, hc.at hp.2.2 h2⟩
theorem pi_is.ch {H H' : ex_H} {L : List Nat} {p w h : Nat} {g m : Nat → Nat} (hc : ex_ch H H' L) (hp : pi_is H p w h g m) (h0 : p ∉ L) (h1 : p + 1 ∉ L) (h2 : p + 2 ∉ L) : pi_is H' p w h g m := by
  obtain ⟨a, gs, ms, b, c⟩ := hp
  exact ⟨a, gs, ms, b.ch hc h0 h1 h2, c⟩
theorem sp_dots {d : Nat} {H : ex_H} {p w h : Nat} {g m : Nat → Nat} (hp : pi_is H p w h g m) : ex_Met mX4_dots d 0 0 H [.ref p] (ex_r H (.int (nI (w * h)))) := by
  obtain ⟨hok, gs, ms, hp0, hct⟩ := id hp
  obtain ⟨hz, hgm⟩ := id hok
  obtain ⟨hp1, hp2, hp3⟩ := id hp0
  have h80 := pi_80 hz
  obtain ⟨hz1, hz2, hz3, hz4⟩ := id hz
  refine ex_meth [(0, .ref p)] rfl rfl rfl (fun b => Nat.le_of_ble_eq_true rfl) ?_
  refine ew_aload_n (M := mX4_dots) dX4_dots_0 rfl (Or.inr (Or.inl ⟨_, rfl⟩)) ?_
  refine ew_get (M := mX4_dots) dX4_dots_1 fX4_9 (by repeat (first | with_reducible assumption | refine ex_eq ?_ | refine ex_ne ?_ (by omega) | exact ex_lt (by with_reducible assumption) | rw [List.length_set] | assumption)) (by rfl) ?_
  refine ew_aload_n (M := mX4_dots) dX4_dots_4 rfl (Or.inr (Or.inl ⟨_, rfl⟩)) ?_
  refine ew_get (M := mX4_dots) dX4_dots_5 fX4_15 (by repeat (first | with_reducible assumption | refine ex_eq ?_ | refine ex_ne ?_ (by omega) | exact ex_lt (by with_reducible assumption) | rw [List.length_set] | assumption)) (by rfl) ?_
  refine ew_imul (M := mX4_dots) dX4_dots_8 ?_
  refine ew_iret (M := mX4_dots) dX4_dots_9 rfl (by first | rfl | decide) (Nat.le_refl _) (Nat.le_refl _) ?_
  exact ⟨rfl, by rw [pk_mul]⟩
theorem sp_has_y {d : Nat} {H : ex_H} {p w h : Nat} {g m : Nat → Nat} (hp : pi_is H p w h g m) {i j : Nat} (hi : i < w) (hj : j < h) : ex_Met mX4_has d 0 0 H [.ref p, .int (nI i), .int (nI j)] (ex_r H (.int (nI 1))) := by
  obtain ⟨hok, gs, ms, hp0, hct⟩ := id hp
  obtain ⟨hz, hgm⟩ := id hok
  obtain ⟨hp1, hp2, hp3⟩ := id hp0
  have h80 := pi_80 hz
  obtain ⟨hz1, hz2, hz3, hz4⟩ := id hz
  refine ex_meth [(0, .ref p), (1, .int (nI i)), (2, .int (nI j))] rfl rfl rfl (fun b => Nat.le_of_ble_eq_true rfl) ?_
  refine ew_iconst (M := mX4_has) dX4_has_0 (v := nI 0) (by decide) ?_
  refine ew_iload_n (M := mX4_has) dX4_has_1 rfl ?_
  refine ew_icmp_gt (M := mX4_has) (tgt := 30) dX4_has_2 rfl (fun h => absurd h (nI_nlt (Nat.zero_le i) (by omega))) (fun _ => ?_)
  refine ew_iload_n (M := mX4_has) dX4_has_5 rfl ?_
  refine ew_aload_n (M := mX4_has) dX4_has_6 rfl (Or.inr (Or.inl ⟨_, rfl⟩)) ?_
  refine ew_get (M := mX4_has) dX4_has_7 fX4_9 (by repeat (first | with_reducible assumption | refine ex_eq ?_ | refine ex_ne ?_ (by omega) | exact ex_lt (by with_reducible assumption) | rw [List.length_set] | assumption)) (by rfl) ?_
  refine ew_icmp_ge (M := mX4_has) (tgt := 30) dX4_has_10 rfl (fun h => absurd h (nI_ge hi (by omega))) (fun _ => ?_)
  refine ew_iconst (M := mX4_has) dX4_has_13 (v := nI 0) (by decide) ?_
  refine ew_iload_n (M := mX4_has) dX4_has_14 rfl ?_
  refine ew_icmp_gt (M := mX4_has) (tgt := 30) dX4_has_15 rfl (fun h => absurd h (nI_nlt (Nat.zero_le j) (by omega))) (fun _ => ?_)
  refine ew_iload_n (M := mX4_has) dX4_has_18 rfl ?_
  refine ew_aload_n (M := mX4_has) dX4_has_19 rfl (Or.inr (Or.inl ⟨_, rfl⟩)) ?_
  refine ew_get (M := mX4_has) dX4_has_20 fX4_15 (by repeat (first | with_reducible assumption | refine ex_eq ?_ | refine ex_ne ?_ (by omega) | exact ex_lt (by with_reducible assumption) | rw [List.length_set] | assumption)) (by rfl) ?_
  refine ew_icmp_ge (M := mX4_has) (tgt := 30) dX4_has_23 rfl (fun h => absurd h (nI_ge hj (by omega))) (fun _ => ?_)
  refine ew_iconst (M := mX4_has) dX4_has_26 (v := nI 1) (by decide) ?_
  refine ew_goto (M := mX4_has) (tgt := 31) dX4_has_27 rfl ?_
  refine ew_iret (M := mX4_has) dX4_has_31 rfl (by first | rfl | decide) (Nat.le_refl _) (Nat.le_refl _) ?_
  exact ⟨rfl, rfl⟩
/-- a dot that there is -/
def pi_in (w h : Nat) (x y : Int32) : Prop := ∃ i j, x = nI i ∧ i < w ∧ y = nI j ∧ j < h
theorem pi_in_of {w h : Nat} {x y : Int32} (hw : w < 2 ^ 31) (hh : h < 2 ^ 31) (h1 : ¬ x < nI 0) (h2 : ¬ nI w ≤ x) (h3 : ¬ y < nI 0) (h4 : ¬ nI h ≤ y) : pi_in w h x y := by
  rw [nI_0] at h1 h3
  obtain ⟨i, hi, rfl⟩ := nI_of h1
  obtain ⟨j, hj, rfl⟩ := nI_of h3
  exact ⟨i, j, rfl, Nat.not_le.mp (fun q => h2 (nI_le q hi)), rfl, Nat.not_le.mp (fun q => h4 (nI_le q hj))⟩
theorem sp_has_n {d : Nat} {H : ex_H} {p w h : Nat} {g m : Nat → Nat} (hp : pi_is H p w h g m) {x y : Int32} (hn : ¬ pi_in w h x y) : ex_Met mX4_has d 0 0 H [.ref p, .int x, .int y] (ex_r H (.int (nI 0))) := by
  obtain ⟨hok, gs, ms, hp0, hct⟩ := id hp
  obtain ⟨hz, hgm⟩ := id hok
  obtain ⟨hp1, hp2, hp3⟩ := id hp0
  have h80 := pi_80 hz
  obtain ⟨hz1, hz2, hz3, hz4⟩ := id hz
  refine ex_meth [(0, .ref p), (1, .int x), (2, .int y)] rfl rfl rfl (fun b => Nat.le_of_ble_eq_true rfl) ?_
  refine ew_iconst (M := mX4_has) dX4_has_0 (v := nI 0) (by decide) ?_
  refine ew_iload_n (M := mX4_has) dX4_has_1 rfl ?_
  refine ew_icmp_gt (M := mX4_has) (tgt := 30) dX4_has_2 rfl (fun c2 => ?_) (fun c2 => ?_)
  · refine ew_iconst (M := mX4_has) dX4_has_30 (v := nI 0) (by decide) ?_
    refine ew_iret (M := mX4_has) dX4_has_31 rfl (by first | rfl | decide) (Nat.le_refl _) (Nat.le_refl _) ?_
    exact ⟨rfl, rfl⟩
  · refine ew_iload_n (M := mX4_has) dX4_has_5 rfl ?_
    refine ew_aload_n (M := mX4_has) dX4_has_6 rfl (Or.inr (Or.inl ⟨_, rfl⟩)) ?_
    refine ew_get (M := mX4_has) dX4_has_7 fX4_9 (by repeat (first | with_reducible assumption | refine ex_eq ?_ | refine ex_ne ?_ (by omega) | exact ex_lt (by with_reducible assumption) | rw [List.length_set] | assumption)) (by rfl) ?_
    refine ew_icmp_ge (M := mX4_has) (tgt := 30) dX4_has_10 rfl (fun c10 => ?_) (fun c10 => ?_)
    · refine ew_iconst (M := mX4_has) dX4_has_30 (v := nI 0) (by decide) ?_
      refine ew_iret (M := mX4_has) dX4_has_31 rfl (by first | rfl | decide) (Nat.le_refl _) (Nat.le_refl _) ?_
      exact ⟨rfl, rfl⟩
    · refine ew_iconst (M := mX4_has) dX4_has_13 (v := nI 0) (by decide) ?_
      refine ew_iload_n (M := mX4_has) dX4_has_14 rfl ?_
      refine ew_icmp_gt (M := mX4_has) (tgt := 30) dX4_has_15 rfl (fun c15 => ?_) (fun c15 => ?_)
      · refine ew_iconst (M := mX4_has) dX4_has_30 (v := nI 0) (by decide) ?_
        refine ew_iret (M := mX4_has) dX4_has_31 rfl (by first | rfl | decide) (Nat.le_refl _) (Nat.le_refl _) ?_
        exact ⟨rfl, rfl⟩
      · refine ew_iload_n (M := mX4_has) dX4_has_18 rfl ?_
        refine ew_aload_n (M := mX4_has) dX4_has_19 rfl (Or.inr (Or.inl ⟨_, rfl⟩)) ?_
        refine ew_get (M := mX4_has) dX4_has_20 fX4_15 (by repeat (first | with_reducible assumption | refine ex_eq ?_ | refine ex_ne ?_ (by omega) | exact ex_lt (by with_reducible assumption) | rw [List.length_set] | assumption)) (by rfl) ?_
        refine ew_icmp_ge (M := mX4_has) (tgt := 30) dX4_has_23 rfl (fun c23 => ?_) (fun c23 => ?_)
        · refine ew_iconst (M := mX4_has) dX4_has_30 (v := nI 0) (by decide) ?_
          refine ew_iret (M := mX4_has) dX4_has_31 rfl (by first | rfl | decide) (Nat.le_refl _) (Nat.le_refl _) ?_
          exact ⟨rfl, rfl⟩
        · exact absurd (pi_in_of (by omega) (by omega) c2 c10 c15 c23) hn
theorem sp_greyOf {d : Nat} {H : ex_H} {p w h : Nat} {g m : Nat → Nat} (hp : pi_is H p w h g m) {i j : Nat} (hi : i < w) (hj : j < h) : ex_Met mX4_greyOf (d + 1) 0 0 H [.ref p, .int (nI i), .int (nI j)] (ex_r H (.int (nI (g (j * w + i))))) := by
  obtain ⟨hok, gs, ms, hp0, hct⟩ := id hp
  obtain ⟨hz, hgm⟩ := id hok
  obtain ⟨hp1, hp2, hp3⟩ := id hp0
  have h80 := pi_80 hz
  obtain ⟨hz1, hz2, hz3, hz4⟩ := id hz
  have hb := pi_lt hi hj
  refine ex_meth [(0, .ref p), (1, .int (nI i)), (2, .int (nI j))] rfl rfl rfl (fun b => Nat.le_of_ble_eq_true rfl) ?_
  refine ew_aload_n (M := mX4_greyOf) dX4_greyOf_0 rfl (Or.inr (Or.inl ⟨_, rfl⟩)) ?_
  refine ew_iload_n (M := mX4_greyOf) dX4_greyOf_1 rfl ?_
  refine ew_iload_n (M := mX4_greyOf) dX4_greyOf_2 rfl ?_
  refine ew_callV (M := mX4_greyOf) dX4_greyOf_3 vX4_26 (by repeat (first | with_reducible assumption | refine ex_eq ?_ | refine ex_ne ?_ (by omega) | exact ex_lt (by with_reducible assumption) | rw [List.length_set] | assumption)) rfl (sp_has_y hp hi hj) rfl (Nat.le_of_ble_eq_true rfl) ⟨Nat.le_refl _, Nat.le_refl _⟩ rfl (fun H3 r3 q3 => ?_)
  obtain ⟨rfl, rfl⟩ := q3
  refine ew_if_eq (M := mX4_greyOf) (tgt := 25) dX4_greyOf_6 rfl (fun h => absurd h (by decide)) (fun _ => ?_)
  refine ew_aload_n (M := mX4_greyOf) dX4_greyOf_9 rfl (Or.inr (Or.inl ⟨_, rfl⟩)) ?_
  refine ew_get (M := mX4_greyOf) dX4_greyOf_10 fX4_18 (by repeat (first | with_reducible assumption | refine ex_eq ?_ | refine ex_ne ?_ (by omega) | exact ex_lt (by with_reducible assumption) | rw [List.length_set] | assumption)) (by rfl) ?_
  refine ew_iload_n (M := mX4_greyOf) dX4_greyOf_13 rfl ?_
  refine ew_aload_n (M := mX4_greyOf) dX4_greyOf_14 rfl (Or.inr (Or.inl ⟨_, rfl⟩)) ?_
  refine ew_get (M := mX4_greyOf) dX4_greyOf_15 fX4_9 (by repeat (first | with_reducible assumption | refine ex_eq ?_ | refine ex_ne ?_ (by omega) | exact ex_lt (by with_reducible assumption) | rw [List.length_set] | assumption)) (by rfl) ?_
  refine ew_imul (M := mX4_greyOf) dX4_greyOf_18 ?_
  refine ew_iload_n (M := mX4_greyOf) dX4_greyOf_19 rfl ?_
  refine ew_iadd (M := mX4_greyOf) dX4_greyOf_20 ?_
  refine ew_iald (M := mX4_greyOf) (j * w + i) dX4_greyOf_21 (by repeat (first | with_reducible assumption | refine ex_eq ?_ | refine ex_ne ?_ (by omega) | exact ex_lt (by with_reducible assumption) | rw [List.length_set] | assumption)) ⟨by rw [pk_mul, nI_add], by omega, by decide⟩ ?_
  refine ew_goto (M := mX4_greyOf) (tgt := 26) dX4_greyOf_22 rfl ?_
  refine ew_iret (M := mX4_greyOf) dX4_greyOf_26 rfl (by first | rfl | decide) (Nat.le_refl _) (Nat.le_refl _) ?_
  exact ⟨rfl, by rw [(hct _ hb).1]⟩
theorem sp_isMasked {d : Nat} {H : ex_H} {p w h : Nat} {g m : Nat → Nat} (hp : pi_is H p w h g m) {i j : Nat} (hi : i < w) (hj : j < h) : ex_Met mX4_isMasked (d + 1) 0 0 H [.ref p, .int (nI i), .int (nI j)] (ex_r H (.int (nI (m (j * w + i))))) := by
  obtain ⟨hok, gs, ms, hp0, hct⟩ := id hp
  obtain ⟨hz, hgm⟩ := id hok
  obtain ⟨hp1, hp2, hp3⟩ := id hp0
  have h80 := pi_80 hz
  obtain ⟨hz1, hz2, hz3, hz4⟩ := id hz
  have hb := pi_lt hi hj
  have hm2 := (hgm _ hb).2
  have hms := (hct _ hb).2
  refine ex_meth [(0, .ref p), (1, .int (nI i)), (2, .int (nI j))] rfl rfl rfl (fun b => Nat.le_of_ble_eq_true rfl) ?_
  refine ew_aload_n (M := mX4_isMasked) dX4_isMasked_0 rfl (Or.inr (Or.inl ⟨_, rfl⟩)) ?_
  refine ew_iload_n (M := mX4_isMasked) dX4_isMasked_1 rfl ?_
  refine ew_iload_n (M := mX4_isMasked) dX4_isMasked_2 rfl ?_
  refine ew_callV (M := mX4_isMasked) dX4_isMasked_3 vX4_26 (by repeat (first | with_reducible assumption | refine ex_eq ?_ | refine ex_ne ?_ (by omega) | exact ex_lt (by with_reducible assumption) | rw [List.length_set] | assumption)) rfl (sp_has_y hp hi hj) rfl (Nat.le_of_ble_eq_true rfl) ⟨Nat.le_refl _, Nat.le_refl _⟩ rfl (fun H3 r3 q3 => ?_)
  obtain ⟨rfl, rfl⟩ := q3
  refine ew_if_eq (M := mX4_isMasked) (tgt := 29) dX4_isMasked_6 rfl (fun h => absurd h (by decide)) (fun _ => ?_)
  refine ew_aload_n (M := mX4_isMasked) dX4_isMasked_9 rfl (Or.inr (Or.inl ⟨_, rfl⟩)) ?_
  refine ew_get (M := mX4_isMasked) dX4_isMasked_10 fX4_22 (by repeat (first | with_reducible assumption | refine ex_eq ?_ | refine ex_ne ?_ (by omega) | exact ex_lt (by with_reducible assumption) | rw [List.length_set] | assumption)) (by rfl) ?_
  refine ew_iload_n (M := mX4_isMasked) dX4_isMasked_13 rfl ?_
  refine ew_aload_n (M := mX4_isMasked) dX4_isMasked_14 rfl (Or.inr (Or.inl ⟨_, rfl⟩)) ?_
  refine ew_get (M := mX4_isMasked) dX4_isMasked_15 fX4_9 (by repeat (first | with_reducible assumption | refine ex_eq ?_ | refine ex_ne ?_ (by omega) | exact ex_lt (by with_reducible assumption) | rw [List.length_set] | assumption)) (by rfl) ?_
  refine ew_imul (M := mX4_isMasked) dX4_isMasked_18 ?_
  refine ew_iload_n (M := mX4_isMasked) dX4_isMasked_19 rfl ?_
  refine ew_iadd (M := mX4_isMasked) dX4_isMasked_20 ?_
  refine ew_zald (M := mX4_isMasked) (j * w + i) dX4_isMasked_21 (by repeat (first | with_reducible assumption | refine ex_eq ?_ | refine ex_ne ?_ (by omega) | exact ex_lt (by with_reducible assumption) | rw [List.length_set] | assumption)) ⟨by rw [pk_mul, nI_add], by omega, by decide⟩ ?_
  refine ew_if_eq (M := mX4_isMasked) (tgt := 29) dX4_isMasked_22 rfl (fun c22 => ?_) (fun c22 => ?_)
  · rw [hms, nI_z (by omega)] at c22
    refine ew_iconst (M := mX4_isMasked) dX4_isMasked_29 (v := nI 0) (by decide) ?_
    refine ew_iret (M := mX4_isMasked) dX4_isMasked_30 rfl (by first | rfl | decide) (Nat.le_refl _) (Nat.le_refl _) ?_
    exact ⟨rfl, by first | (rw [c22]; done) | rw [show m (j * w + i) = 1 by omega]⟩
  · rw [hms, nI_z (by omega)] at c22
    refine ew_iconst (M := mX4_isMasked) dX4_isMasked_25 (v := nI 1) (by decide) ?_
    refine ew_goto (M := mX4_isMasked) (tgt := 30) dX4_isMasked_26 rfl ?_
    refine ew_iret (M := mX4_isMasked) dX4_isMasked_30 rfl (by first | rfl | decide) (Nat.le_refl _) (Nat.le_refl _) ?_
    exact ⟨rfl, by first | (rw [c22]; done) | rw [show m (j * w + i) = 1 by omega]⟩
theorem sp_setGrey {d : Nat} {H : ex_H} {p w h : Nat} {g m : Nat → Nat} (hp : pi_is H p w h g m) {i j v : Nat} (hi : i < w) (hj : j < h) (hv : v < 256) : ex_Met mX4_setGrey (d + 1) 0 0 H [.ref p, .int (nI i), .int (nI j), .int (nI v)] (fun H' r => r = none ∧ ex_ch H H' [p + 1] ∧ pi_is H' p w h (va_up g (j * w + i) v) m) := by
  obtain ⟨hok, gs, ms, hp0, hct⟩ := id hp
  obtain ⟨hz, hgm⟩ := id hok
  obtain ⟨hp1, hp2, hp3⟩ := id hp0
  have h80 := pi_80 hz
  obtain ⟨hz1, hz2, hz3, hz4⟩ := id hz
  have hb := pi_lt hi hj
  refine ex_meth [(0, .ref p), (1, .int (nI i)), (2, .int (nI j)), (3, .int (nI v))] rfl rfl rfl (fun b => Nat.le_of_ble_eq_true rfl) ?_
  refine ew_aload_n (M := mX4_setGrey) dX4_setGrey_0 rfl (Or.inr (Or.inl ⟨_, rfl⟩)) ?_
  refine ew_iload_n (M := mX4_setGrey) dX4_setGrey_1 rfl ?_
  refine ew_iload_n (M := mX4_setGrey) dX4_setGrey_2 rfl ?_
  refine ew_callV (M := mX4_setGrey) dX4_setGrey_3 vX4_26 (by repeat (first | with_reducible assumption | refine ex_eq ?_ | refine ex_ne ?_ (by omega) | exact ex_lt (by with_reducible assumption) | rw [List.length_set] | assumption)) rfl (sp_has_y hp hi hj) rfl (Nat.le_of_ble_eq_true rfl) ⟨Nat.le_refl _, Nat.le_refl _⟩ rfl (fun H3 r3 q3 => ?_)
  obtain ⟨rfl, rfl⟩ := q3
  refine ew_if_eq (M := mX4_setGrey) (tgt := 23) dX4_setGrey_6 rfl (fun h => absurd h (by decide)) (fun _ => ?_)
  refine ew_aload_n (M := mX4_setGrey) dX4_setGrey_9 rfl (Or.inr (Or.inl ⟨_, rfl⟩)) ?_
  refine ew_get (M := mX4_setGrey) dX4_setGrey_10 fX4_18 (by repeat (first | with_reducible assumption | refine ex_eq ?_ | refine ex_ne ?_ (by omega) | exact ex_lt (by with_reducible assumption) | rw [List.length_set] | assumption)) (by rfl) ?_
  refine ew_iload_n (M := mX4_setGrey) dX4_setGrey_13 rfl ?_
  refine ew_aload_n (M := mX4_setGrey) dX4_setGrey_14 rfl (Or.inr (Or.inl ⟨_, rfl⟩)) ?_
  refine ew_get (M := mX4_setGrey) dX4_setGrey_15 fX4_9 (by repeat (first | with_reducible assumption | refine ex_eq ?_ | refine ex_ne ?_ (by omega) | exact ex_lt (by with_reducible assumption) | rw [List.length_set] | assumption)) (by rfl) ?_
  refine ew_imul (M := mX4_setGrey) dX4_setGrey_18 ?_
  refine ew_iload_n (M := mX4_setGrey) dX4_setGrey_19 rfl ?_
  refine ew_iadd (M := mX4_setGrey) dX4_setGrey_20 ?_
  refine ew_iload_n (M := mX4_setGrey) dX4_setGrey_21 rfl ?_
  refine ew_iast (M := mX4_setGrey) (j * w + i) dX4_setGrey_22 (by repeat (first | with_reducible assumption | refine ex_eq ?_ | refine ex_ne ?_ (by omega) | exact ex_lt (by with_reducible assumption) | rw [List.length_set] | assumption)) ⟨by rw [pk_mul, nI_add], by omega, by decide⟩ ?_
  refine ew_vret (M := mX4_setGrey) dX4_setGrey_23 rfl (Nat.le_refl _) (Nat.le_refl _) ?_
  refine ⟨rfl, ex_ch.rf.set (by simp), ⟨hz, fun k hk => ?_⟩, upd gs (j * w + i) (nI v), ms, ⟨ex_ne hp1 (by omega), ex_eq (ex_lt hp2), ex_ne hp3 (by omega)⟩, fun k hk => ?_⟩
  · by_cases e : k = j * w + i
    · subst e; simp only [va_up, if_true]; exact ⟨hv, (hgm _ hb).2⟩
    · simp only [va_up, if_neg e]; exact hgm k hk
  · by_cases e : k = j * w + i
    · subst e; simp only [va_up, upd, if_true]; exact ⟨trivial, (hct _ hb).2⟩
    · simp only [va_up, upd, if_neg e]; exact hct k hk
theorem sp_setMasked {d : Nat} {H : ex_H} {p w h : Nat} {g m : Nat → Nat} (hp : pi_is H p w h g m) {i j v : Nat} (hi : i < w) (hj : j < h) (hv : v < 2) : ex_Met mX4_setMasked (d + 1) 0 0 H [.ref p, .int (nI i), .int (nI j), .int (nI v)] (fun H' r => r = none ∧ ex_ch H H' [p + 2] ∧ pi_is H' p w h g (va_up m (j * w + i) v)) := by
  obtain ⟨hok, gs, ms, hp0, hct⟩ := id hp
  obtain ⟨hz, hgm⟩ := id hok
  obtain ⟨hp1, hp2, hp3⟩ := id hp0
  have h80 := pi_80 hz
  obtain ⟨hz1, hz2, hz3, hz4⟩ := id hz
  have hb := pi_lt hi hj
  have hv1 : nI v &&& 1 = nI v := by
    rcases (show v = 0 ∨ v = 1 by omega) with rfl | rfl <;> decide
  refine ex_meth [(0, .ref p), (1, .int (nI i)), (2, .int (nI j)), (3, .int (nI v))] rfl rfl rfl (fun b => Nat.le_of_ble_eq_true rfl) ?_
  refine ew_aload_n (M := mX4_setMasked) dX4_setMasked_0 rfl (Or.inr (Or.inl ⟨_, rfl⟩)) ?_
  refine ew_iload_n (M := mX4_setMasked) dX4_setMasked_1 rfl ?_
  refine ew_iload_n (M := mX4_setMasked) dX4_setMasked_2 rfl ?_
  refine ew_callV (M := mX4_setMasked) dX4_setMasked_3 vX4_26 (by repeat (first | with_reducible assumption | refine ex_eq ?_ | refine ex_ne ?_ (by omega) | exact ex_lt (by with_reducible assumption) | rw [List.length_set] | assumption)) rfl (sp_has_y hp hi hj) rfl (Nat.le_of_ble_eq_true rfl) ⟨Nat.le_refl _, Nat.le_refl _⟩ rfl (fun H3 r3 q3 => ?_)
  obtain ⟨rfl, rfl⟩ := q3
  refine ew_if_eq (M := mX4_setMasked) (tgt := 23) dX4_setMasked_6 rfl (fun h => absurd h (by decide)) (fun _ => ?_)
  refine ew_aload_n (M := mX4_setMasked) dX4_setMasked_9 rfl (Or.inr (Or.inl ⟨_, rfl⟩)) ?_
  refine ew_get (M := mX4_setMasked) dX4_setMasked_10 fX4_22 (by repeat (first | with_reducible assumption | refine ex_eq ?_ | refine ex_ne ?_ (by omega) | exact ex_lt (by with_reducible assumption) | rw [List.length_set] | assumption)) (by rfl) ?_
  refine ew_iload_n (M := mX4_setMasked) dX4_setMasked_13 rfl ?_
  refine ew_aload_n (M := mX4_setMasked) dX4_setMasked_14 rfl (Or.inr (Or.inl ⟨_, rfl⟩)) ?_
  refine ew_get (M := mX4_setMasked) dX4_setMasked_15 fX4_9 (by repeat (first | with_reducible assumption | refine ex_eq ?_ | refine ex_ne ?_ (by omega) | exact ex_lt (by with_reducible assumption) | rw [List.length_set] | assumption)) (by rfl) ?_
  refine ew_imul (M := mX4_setMasked) dX4_setMasked_18 ?_
  refine ew_iload_n (M := mX4_setMasked) dX4_setMasked_19 rfl ?_
  refine ew_iadd (M := mX4_setMasked) dX4_setMasked_20 ?_
  refine ew_iload_n (M := mX4_setMasked) dX4_setMasked_21 rfl ?_
  refine ew_zast (M := mX4_setMasked) (j * w + i) dX4_setMasked_22 (by repeat (first | with_reducible assumption | refine ex_eq ?_ | refine ex_ne ?_ (by omega) | exact ex_lt (by with_reducible assumption) | rw [List.length_set] | assumption)) ⟨by rw [pk_mul, nI_add], by omega, by decide⟩ (by assumption) ?_
  refine ew_vret (M := mX4_setMasked) dX4_setMasked_23 rfl (Nat.le_refl _) (Nat.le_refl _) ?_
  refine ⟨rfl, ex_ch.rf.set (by simp), ⟨hz, fun k hk => ?_⟩, gs, upd ms (j * w + i) (nI v), ⟨ex_ne hp1 (by omega), ex_ne hp2 (by omega), ex_eq (ex_lt hp3)⟩, fun k hk => ?_⟩
  · by_cases e : k = j * w + i
    · subst e; simp only [va_up, if_true]; exact ⟨(hgm _ hb).1, hv⟩
    · simp only [va_up, if_neg e]; exact hgm k hk
  · by_cases e : k = j * w + i
    · subst e; simp only [va_up, upd, if_true]; exact ⟨(hct _ hb).1, trivial⟩
    · simp only [va_up, upd, if_neg e]; exact hct k hk
def pm_masked (w h : Nat) (m : Nat → Nat) : Nat := fl (fun k n => if m k = 0 then n else n + 1) (w * h) 0
theorem sp_maskedDots {d : Nat} {H : ex_H} {p w h : Nat} {g m : Nat → Nat} (hp : pi_is H p w h g m) : ex_Met mX4_maskedDots (d + 1) 0 0 H [.ref p] (ex_r H (.int (nI (pm_masked w h m)))) := by
  obtain ⟨hok, gs, ms, hp0, hct⟩ := id hp
  obtain ⟨hz, hgm⟩ := id hok
  obtain ⟨hp1, hp2, hp3⟩ := id hp0
  have h80 := pi_80 hz
  obtain ⟨hz1, hz2, hz3, hz4⟩ := id hz
  refine ex_meth [(0, .ref p)] rfl rfl rfl (fun b => Nat.le_of_ble_eq_true rfl) ?_
  refine ew_iconst (M := mX4_maskedDots) dX4_maskedDots_0 (v := nI 0) (by decide) ?_
  refine ew_istore_n (M := mX4_maskedDots) dX4_maskedDots_1 (by decide) rfl ?_
  refine ew_iconst (M := mX4_maskedDots) dX4_maskedDots_2 (v := nI 0) (by decide) ?_
  refine ew_istore_n (M := mX4_maskedDots) dX4_maskedDots_3 (by decide) rfl ?_
  refine ew_ls [(0, .ref p), (1, .int (nI 0)), (2, .int (nI 0))] ⟨rfl, rfl, rfl, trivial⟩ ?_
  refine fl_down (F := fun k n => if m k = 0 then n else n + 1) (P := fun i n => ex_W mX4_maskedDots (d + 1) 0 0 _ H 4 [(0, .ref p), (1, .int (nI n)), (2, .int (nI i))] [] 0 0) (w * h) 0 (fun i n hi _ k => ?_) ?_
  · refine ew_iload_n (M := mX4_maskedDots) dX4_maskedDots_4 rfl ?_
    refine ew_aload_n (M := mX4_maskedDots) dX4_maskedDots_5 rfl (Or.inr (Or.inl ⟨_, rfl⟩)) ?_
    refine ew_callV (M := mX4_maskedDots) dX4_maskedDots_6 vX4_38 (by repeat (first | with_reducible assumption | refine ex_eq ?_ | refine ex_ne ?_ (by omega) | exact ex_lt (by with_reducible assumption) | rw [List.length_set] | assumption)) rfl (sp_dots hp) rfl (Nat.le_of_ble_eq_true rfl) ⟨Nat.le_refl _, Nat.le_refl _⟩ rfl (fun H6 r6 q6 => ?_)
    obtain ⟨rfl, rfl⟩ := q6
    refine ew_icmp_ge (M := mX4_maskedDots) (tgt := 30) dX4_maskedDots_9 rfl (fun h => absurd h (nI_ge hi (by omega))) (fun _ => ?_)
    refine ew_aload_n (M := mX4_maskedDots) dX4_maskedDots_12 rfl (Or.inr (Or.inl ⟨_, rfl⟩)) ?_
    refine ew_get (M := mX4_maskedDots) dX4_maskedDots_13 fX4_22 (by repeat (first | with_reducible assumption | refine ex_eq ?_ | refine ex_ne ?_ (by omega) | exact ex_lt (by with_reducible assumption) | rw [List.length_set] | assumption)) (by rfl) ?_
    refine ew_iload_n (M := mX4_maskedDots) dX4_maskedDots_16 rfl ?_
    refine ew_zald (M := mX4_maskedDots) i dX4_maskedDots_17 (by repeat (first | with_reducible assumption | refine ex_eq ?_ | refine ex_ne ?_ (by omega) | exact ex_lt (by with_reducible assumption) | rw [List.length_set] | assumption)) ⟨rfl, by omega, by decide⟩ ?_
    refine ew_if_eq (M := mX4_maskedDots) (tgt := 24) dX4_maskedDots_18 rfl (fun c18 => ?_) (fun c18 => ?_)
    · rw [(hct i hi).2, nI_z (by have := (hgm i hi).2; omega)] at c18
      refine ew_iinc (M := mX4_maskedDots) dX4_maskedDots_24 rfl (ex_inc i) (by decide) rfl ?_
      refine ew_goto (M := mX4_maskedDots) (tgt := 4) dX4_maskedDots_27 rfl ?_
      simp only [c18, ↓reduceIte] at k
      refine ew_ls _ ?_ k
      exact ⟨rfl, rfl, rfl, trivial⟩
    · rw [(hct i hi).2, nI_z (by have := (hgm i hi).2; omega)] at c18
      refine ew_iinc (M := mX4_maskedDots) dX4_maskedDots_21 rfl (ex_inc n) (by decide) rfl ?_
      refine ew_iinc (M := mX4_maskedDots) dX4_maskedDots_24 rfl (ex_inc i) (by decide) rfl ?_
      refine ew_goto (M := mX4_maskedDots) (tgt := 4) dX4_maskedDots_27 rfl ?_
      simp only [c18, ↓reduceIte] at k
      refine ew_ls _ ?_ k
      exact ⟨rfl, rfl, rfl, trivial⟩
  · refine ew_iload_n (M := mX4_maskedDots) dX4_maskedDots_4 rfl ?_
    refine ew_aload_n (M := mX4_maskedDots) dX4_maskedDots_5 rfl (Or.inr (Or.inl ⟨_, rfl⟩)) ?_
    refine ew_callV (M := mX4_maskedDots) dX4_maskedDots_6 vX4_38 (by repeat (first | with_reducible assumption | refine ex_eq ?_ | refine ex_ne ?_ (by omega) | exact ex_lt (by with_reducible assumption) | rw [List.length_set] | assumption)) rfl (sp_dots hp) rfl (Nat.le_of_ble_eq_true rfl) ⟨Nat.le_refl _, Nat.le_refl _⟩ rfl (fun H6 r6 q6 => ?_)
    obtain ⟨rfl, rfl⟩ := q6
    refine ew_icmp_ge (M := mX4_maskedDots) (tgt := 30) dX4_maskedDots_9 rfl (fun _ => ?_) (fun h => absurd (nI_le (Nat.le_refl _) (by omega)) h)
    refine ew_iload_n (M := mX4_maskedDots) dX4_maskedDots_30 rfl ?_
    refine ew_iret (M := mX4_maskedDots) dX4_maskedDots_31 rfl (by first | rfl | decide) (Nat.le_refl _) (Nat.le_refl _) ?_
    exact ⟨rfl, rfl⟩
def pm_least (w h : Nat) (g m : Nat → Nat) : Int32 := fl (fun k (s : Int32) => if m k = 0 then (if s = -1 then nI (g k) else if nI (g k) < s then nI (g k) else s) else s) (w * h) (-1)
theorem sp_leastGrey {d : Nat} {H : ex_H} {p w h : Nat} {g m : Nat → Nat} (hp : pi_is H p w h g m) : ex_Met mX4_leastGrey (d + 1) 0 0 H [.ref p] (ex_r H (.int (pm_least w h g m))) := by
  obtain ⟨hok, gs, ms, hp0, hct⟩ := id hp
  obtain ⟨hz, hgm⟩ := id hok
  obtain ⟨hp1, hp2, hp3⟩ := id hp0
  have h80 := pi_80 hz
  obtain ⟨hz1, hz2, hz3, hz4⟩ := id hz
  refine ex_meth [(0, .ref p)] rfl rfl rfl (fun b => Nat.le_of_ble_eq_true rfl) ?_
  refine ew_iconst (M := mX4_leastGrey) dX4_leastGrey_0 (v := (-1)) (by decide) ?_
  refine ew_istore_n (M := mX4_leastGrey) dX4_leastGrey_1 (by decide) rfl ?_
  refine ew_iconst (M := mX4_leastGrey) dX4_leastGrey_2 (v := nI 0) (by decide) ?_
  refine ew_istore_n (M := mX4_leastGrey) dX4_leastGrey_3 (by decide) rfl ?_
  refine ew_ls [(0, .ref p), (1, .int (-1)), (2, .int (nI 0))] ⟨rfl, rfl, rfl, trivial⟩ ?_
  refine fl_down (F := fun k (s : Int32) => if m k = 0 then (if s = -1 then nI (g k) else if nI (g k) < s then nI (g k) else s) else s) (P := fun i s => ex_W mX4_leastGrey (d + 1) 0 0 _ H 4 [(0, .ref p), (1, .int s), (2, .int (nI i))] [] 0 0) (w * h) (-1) (fun i s hi _ k => ?_) ?_
  · refine ew_iload_n (M := mX4_leastGrey) dX4_leastGrey_4 rfl ?_
    refine ew_aload_n (M := mX4_leastGrey) dX4_leastGrey_5 rfl (Or.inr (Or.inl ⟨_, rfl⟩)) ?_
    refine ew_callV (M := mX4_leastGrey) dX4_leastGrey_6 vX4_38 (by repeat (first | with_reducible assumption | refine ex_eq ?_ | refine ex_ne ?_ (by omega) | exact ex_lt (by with_reducible assumption) | rw [List.length_set] | assumption)) rfl (sp_dots hp) rfl (Nat.le_of_ble_eq_true rfl) ⟨Nat.le_refl _, Nat.le_refl _⟩ rfl (fun H6 r6 q6 => ?_)
    obtain ⟨rfl, rfl⟩ := q6
    refine ew_icmp_ge (M := mX4_leastGrey) (tgt := 49) dX4_leastGrey_9 rfl (fun h => absurd h (nI_ge hi (by omega))) (fun _ => ?_)
    refine ew_aload_n (M := mX4_leastGrey) dX4_leastGrey_12 rfl (Or.inr (Or.inl ⟨_, rfl⟩)) ?_
    refine ew_get (M := mX4_leastGrey) dX4_leastGrey_13 fX4_22 (by repeat (first | with_reducible assumption | refine ex_eq ?_ | refine ex_ne ?_ (by omega) | exact ex_lt (by with_reducible assumption) | rw [List.length_set] | assumption)) (by rfl) ?_
    refine ew_iload_n (M := mX4_leastGrey) dX4_leastGrey_16 rfl ?_
    refine ew_zald (M := mX4_leastGrey) i dX4_leastGrey_17 (by repeat (first | with_reducible assumption | refine ex_eq ?_ | refine ex_ne ?_ (by omega) | exact ex_lt (by with_reducible assumption) | rw [List.length_set] | assumption)) ⟨rfl, by omega, by decide⟩ ?_
    refine ew_if_ne (M := mX4_leastGrey) (tgt := 43) dX4_leastGrey_18 rfl (fun c18 => ?_) (fun c18 => ?_)
    · rw [(hct i hi).2, nI_z (by have := (hgm i hi).2; omega)] at c18
      first | (rw [(hct i hi).1]) | skip
      refine ew_iinc (M := mX4_leastGrey) dX4_leastGrey_43 rfl (ex_inc i) (by decide) rfl ?_
      refine ew_goto (M := mX4_leastGrey) (tgt := 4) dX4_leastGrey_46 rfl ?_
      first | (have c33' : nI (g i) < s := Int32.not_le.mp c33) | (have c33' : ¬ nI (g i) < s := Int32.not_lt.mpr c33) | (have c33' := True.intro)
      simp only [c18, ↓reduceIte] at k
      try simp only [c23, ↓reduceIte] at k
      try simp only [c33', ↓reduceIte] at k
      refine ew_ls _ ?_ k
      exact ⟨rfl, rfl, rfl, trivial⟩
    · rw [(hct i hi).2, nI_z (by have := (hgm i hi).2; omega)] at c18
      refine ew_iload_n (M := mX4_leastGrey) dX4_leastGrey_21 rfl ?_
      refine ew_iconst (M := mX4_leastGrey) dX4_leastGrey_22 (v := (-1)) (by decide) ?_
      refine ew_icmp_eq (M := mX4_leastGrey) (tgt := 36) dX4_leastGrey_23 rfl (fun c23 => ?_) (fun c23 => ?_)
      · refine ew_aload_n (M := mX4_leastGrey) dX4_leastGrey_36 rfl (Or.inr (Or.inl ⟨_, rfl⟩)) ?_
        refine ew_get (M := mX4_leastGrey) dX4_leastGrey_37 fX4_18 (by repeat (first | with_reducible assumption | refine ex_eq ?_ | refine ex_ne ?_ (by omega) | exact ex_lt (by with_reducible assumption) | rw [List.length_set] | assumption)) (by rfl) ?_
        refine ew_iload_n (M := mX4_leastGrey) dX4_leastGrey_40 rfl ?_
        refine ew_iald (M := mX4_leastGrey) i dX4_leastGrey_41 (by repeat (first | with_reducible assumption | refine ex_eq ?_ | refine ex_ne ?_ (by omega) | exact ex_lt (by with_reducible assumption) | rw [List.length_set] | assumption)) ⟨rfl, by omega, by decide⟩ ?_
        refine ew_istore_n (M := mX4_leastGrey) dX4_leastGrey_42 (by decide) rfl ?_
        first | (rw [(hct i hi).1]) | skip
        refine ew_iinc (M := mX4_leastGrey) dX4_leastGrey_43 rfl (ex_inc i) (by decide) rfl ?_
        refine ew_goto (M := mX4_leastGrey) (tgt := 4) dX4_leastGrey_46 rfl ?_
        first | (have c33' : nI (g i) < s := Int32.not_le.mp c33) | (have c33' : ¬ nI (g i) < s := Int32.not_lt.mpr c33) | (have c33' := True.intro)
        simp only [c18, ↓reduceIte] at k
        try simp only [c23, ↓reduceIte] at k
        try simp only [c33', ↓reduceIte] at k
        refine ew_ls _ ?_ k
        exact ⟨rfl, rfl, rfl, trivial⟩
      · refine ew_aload_n (M := mX4_leastGrey) dX4_leastGrey_26 rfl (Or.inr (Or.inl ⟨_, rfl⟩)) ?_
        refine ew_get (M := mX4_leastGrey) dX4_leastGrey_27 fX4_18 (by repeat (first | with_reducible assumption | refine ex_eq ?_ | refine ex_ne ?_ (by omega) | exact ex_lt (by with_reducible assumption) | rw [List.length_set] | assumption)) (by rfl) ?_
        refine ew_iload_n (M := mX4_leastGrey) dX4_leastGrey_30 rfl ?_
        refine ew_iald (M := mX4_leastGrey) i dX4_leastGrey_31 (by repeat (first | with_reducible assumption | refine ex_eq ?_ | refine ex_ne ?_ (by omega) | exact ex_lt (by with_reducible assumption) | rw [List.length_set] | assumption)) ⟨rfl, by omega, by decide⟩ ?_
        refine ew_iload_n (M := mX4_leastGrey) dX4_leastGrey_32 rfl ?_
        refine ew_icmp_ge (M := mX4_leastGrey) (tgt := 43) dX4_leastGrey_33 rfl (fun c33 => ?_) (fun c33 => ?_)
        · rw [(hct i hi).1] at c33
          first | (rw [(hct i hi).1]) | skip
          refine ew_iinc (M := mX4_leastGrey) dX4_leastGrey_43 rfl (ex_inc i) (by decide) rfl ?_
          refine ew_goto (M := mX4_leastGrey) (tgt := 4) dX4_leastGrey_46 rfl ?_
          first | (have c33' : nI (g i) < s := Int32.not_le.mp c33) | (have c33' : ¬ nI (g i) < s := Int32.not_lt.mpr c33) | (have c33' := True.intro)
          simp only [c18, ↓reduceIte] at k
          try simp only [c23, ↓reduceIte] at k
          try simp only [c33', ↓reduceIte] at k
          refine ew_ls _ ?_ k
          exact ⟨rfl, rfl, rfl, trivial⟩
        · rw [(hct i hi).1] at c33
          refine ew_aload_n (M := mX4_leastGrey) dX4_leastGrey_36 rfl (Or.inr (Or.inl ⟨_, rfl⟩)) ?_
          refine ew_get (M := mX4_leastGrey) dX4_leastGrey_37 fX4_18 (by repeat (first | with_reducible assumption | refine ex_eq ?_ | refine ex_ne ?_ (by omega) | exact ex_lt (by with_reducible assumption) | rw [List.length_set] | assumption)) (by rfl) ?_
          refine ew_iload_n (M := mX4_leastGrey) dX4_leastGrey_40 rfl ?_
          refine ew_iald (M := mX4_leastGrey) i dX4_leastGrey_41 (by repeat (first | with_reducible assumption | refine ex_eq ?_ | refine ex_ne ?_ (by omega) | exact ex_lt (by with_reducible assumption) | rw [List.length_set] | assumption)) ⟨rfl, by omega, by decide⟩ ?_
          refine ew_istore_n (M := mX4_leastGrey) dX4_leastGrey_42 (by decide) rfl ?_
          first | (rw [(hct i hi).1]) | skip
          refine ew_iinc (M := mX4_leastGrey) dX4_leastGrey_43 rfl (ex_inc i) (by decide) rfl ?_
          refine ew_goto (M := mX4_leastGrey) (tgt := 4) dX4_leastGrey_46 rfl ?_
          first | (have c33' : nI (g i) < s := Int32.not_le.mp c33) | (have c33' : ¬ nI (g i) < s := Int32.not_lt.mpr c33) | (have c33' := True.intro)
          simp only [c18, ↓reduceIte] at k
          try simp only [c23, ↓reduceIte] at k
          try simp only [c33', ↓reduceIte] at k
          refine ew_ls _ ?_ k
          exact ⟨rfl, rfl, rfl, trivial⟩
  · refine ew_iload_n (M := mX4_leastGrey) dX4_leastGrey_4 rfl ?_
    refine ew_aload_n (M := mX4_leastGrey) dX4_leastGrey_5 rfl (Or.inr (Or.inl ⟨_, rfl⟩)) ?_
    refine ew_callV (M := mX4_leastGrey) dX4_leastGrey_6 vX4_38 (by repeat (first | with_reducible assumption | refine ex_eq ?_ | refine ex_ne ?_ (by omega) | exact ex_lt (by with_reducible assumption) | rw [List.length_set] | assumption)) rfl (sp_dots hp) rfl (Nat.le_of_ble_eq_true rfl) ⟨Nat.le_refl _, Nat.le_refl _⟩ rfl (fun H6 r6 q6 => ?_)
    obtain ⟨rfl, rfl⟩ := q6
    refine ew_icmp_ge (M := mX4_leastGrey) (tgt := 49) dX4_leastGrey_9 rfl (fun _ => ?_) (fun h => absurd (nI_le (Nat.le_refl _) (by omega)) h)
    refine ew_iload_n (M := mX4_leastGrey) dX4_leastGrey_49 rfl ?_
    refine ew_iret (M := mX4_leastGrey) dX4_leastGrey_50 rfl (by first | rfl | decide) (Nat.le_refl _) (Nat.le_refl _) ?_
    exact ⟨rfl, rfl⟩
def pm_most (w h : Nat) (g m : Nat → Nat) : Int32 := fl (fun k (s : Int32) => if m k = 0 then (if nI (g k) ≤ s then s else nI (g k)) else s) (w * h) (-1)
theorem sp_greatestGrey {d : Nat} {H : ex_H} {p w h : Nat} {g m : Nat → Nat} (hp : pi_is H p w h g m) : ex_Met mX4_greatestGrey (d + 1) 0 0 H [.ref p] (ex_r H (.int (pm_most w h g m))) := by
  obtain ⟨hok, gs, ms, hp0, hct⟩ := id hp
  obtain ⟨hz, hgm⟩ := id hok
  obtain ⟨hp1, hp2, hp3⟩ := id hp0
  have h80 := pi_80 hz
  obtain ⟨hz1, hz2, hz3, hz4⟩ := id hz
  refine ex_meth [(0, .ref p)] rfl rfl rfl (fun b => Nat.le_of_ble_eq_true rfl) ?_
  refine ew_iconst (M := mX4_greatestGrey) dX4_greatestGrey_0 (v := (-1)) (by decide) ?_
  refine ew_istore_n (M := mX4_greatestGrey) dX4_greatestGrey_1 (by decide) rfl ?_
  refine ew_iconst (M := mX4_greatestGrey) dX4_greatestGrey_2 (v := nI 0) (by decide) ?_
  refine ew_istore_n (M := mX4_greatestGrey) dX4_greatestGrey_3 (by decide) rfl ?_
  refine ew_ls [(0, .ref p), (1, .int (-1)), (2, .int (nI 0))] ⟨rfl, rfl, rfl, trivial⟩ ?_
  refine fl_down (F := fun k (s : Int32) => if m k = 0 then (if nI (g k) ≤ s then s else nI (g k)) else s) (P := fun i s => ex_W mX4_greatestGrey (d + 1) 0 0 _ H 4 [(0, .ref p), (1, .int s), (2, .int (nI i))] [] 0 0) (w * h) (-1) (fun i s hi _ k => ?_) ?_
  · refine ew_iload_n (M := mX4_greatestGrey) dX4_greatestGrey_4 rfl ?_
    refine ew_aload_n (M := mX4_greatestGrey) dX4_greatestGrey_5 rfl (Or.inr (Or.inl ⟨_, rfl⟩)) ?_
    refine ew_callV (M := mX4_greatestGrey) dX4_greatestGrey_6 vX4_38 (by repeat (first | with_reducible assumption | refine ex_eq ?_ | refine ex_ne ?_ (by omega) | exact ex_lt (by with_reducible assumption) | rw [List.length_set] | assumption)) rfl (sp_dots hp) rfl (Nat.le_of_ble_eq_true rfl) ⟨Nat.le_refl _, Nat.le_refl _⟩ rfl (fun H6 r6 q6 => ?_)
    obtain ⟨rfl, rfl⟩ := q6
    refine ew_icmp_ge (M := mX4_greatestGrey) (tgt := 44) dX4_greatestGrey_9 rfl (fun h => absurd h (nI_ge hi (by omega))) (fun _ => ?_)
    refine ew_aload_n (M := mX4_greatestGrey) dX4_greatestGrey_12 rfl (Or.inr (Or.inl ⟨_, rfl⟩)) ?_
    refine ew_get (M := mX4_greatestGrey) dX4_greatestGrey_13 fX4_22 (by repeat (first | with_reducible assumption | refine ex_eq ?_ | refine ex_ne ?_ (by omega) | exact ex_lt (by with_reducible assumption) | rw [List.length_set] | assumption)) (by rfl) ?_
    refine ew_iload_n (M := mX4_greatestGrey) dX4_greatestGrey_16 rfl ?_
    refine ew_zald (M := mX4_greatestGrey) i dX4_greatestGrey_17 (by repeat (first | with_reducible assumption | refine ex_eq ?_ | refine ex_ne ?_ (by omega) | exact ex_lt (by with_reducible assumption) | rw [List.length_set] | assumption)) ⟨rfl, by omega, by decide⟩ ?_
    refine ew_if_ne (M := mX4_greatestGrey) (tgt := 38) dX4_greatestGrey_18 rfl (fun c18 => ?_) (fun c18 => ?_)
    · rw [(hct i hi).2, nI_z (by have := (hgm i hi).2; omega)] at c18
      first | (rw [(hct i hi).1]) | skip
      refine ew_iinc (M := mX4_greatestGrey) dX4_greatestGrey_38 rfl (ex_inc i) (by decide) rfl ?_
      refine ew_goto (M := mX4_greatestGrey) (tgt := 4) dX4_greatestGrey_41 rfl ?_
      simp only [c18, ↓reduceIte] at k
      try simp only [c28, ↓reduceIte] at k
      refine ew_ls _ ?_ k
      exact ⟨rfl, rfl, rfl, trivial⟩
    · rw [(hct i hi).2, nI_z (by have := (hgm i hi).2; omega)] at c18
      refine ew_aload_n (M := mX4_greatestGrey) dX4_greatestGrey_21 rfl (Or.inr (Or.inl ⟨_, rfl⟩)) ?_
      refine ew_get (M := mX4_greatestGrey) dX4_greatestGrey_22 fX4_18 (by repeat (first | with_reducible assumption | refine ex_eq ?_ | refine ex_ne ?_ (by omega) | exact ex_lt (by with_reducible assumption) | rw [List.length_set] | assumption)) (by rfl) ?_
      refine ew_iload_n (M := mX4_greatestGrey) dX4_greatestGrey_25 rfl ?_
      refine ew_iald (M := mX4_greatestGrey) i dX4_greatestGrey_26 (by repeat (first | with_reducible assumption | refine ex_eq ?_ | refine ex_ne ?_ (by omega) | exact ex_lt (by with_reducible assumption) | rw [List.length_set] | assumption)) ⟨rfl, by omega, by decide⟩ ?_
      refine ew_iload_n (M := mX4_greatestGrey) dX4_greatestGrey_27 rfl ?_
      refine ew_icmp_le (M := mX4_greatestGrey) (tgt := 38) dX4_greatestGrey_28 rfl (fun c28 => ?_) (fun c28 => ?_)
      · rw [(hct i hi).1] at c28
        first | (rw [(hct i hi).1]) | skip
        refine ew_iinc (M := mX4_greatestGrey) dX4_greatestGrey_38 rfl (ex_inc i) (by decide) rfl ?_
        refine ew_goto (M := mX4_greatestGrey) (tgt := 4) dX4_greatestGrey_41 rfl ?_
        simp only [c18, ↓reduceIte] at k
        try simp only [c28, ↓reduceIte] at k
        refine ew_ls _ ?_ k
        exact ⟨rfl, rfl, rfl, trivial⟩
      · rw [(hct i hi).1] at c28
        refine ew_aload_n (M := mX4_greatestGrey) dX4_greatestGrey_31 rfl (Or.inr (Or.inl ⟨_, rfl⟩)) ?_
        refine ew_get (M := mX4_greatestGrey) dX4_greatestGrey_32 fX4_18 (by repeat (first | with_reducible assumption | refine ex_eq ?_ | refine ex_ne ?_ (by omega) | exact ex_lt (by with_reducible assumption) | rw [List.length_set] | assumption)) (by rfl) ?_
        refine ew_iload_n (M := mX4_greatestGrey) dX4_greatestGrey_35 rfl ?_
        refine ew_iald (M := mX4_greatestGrey) i dX4_greatestGrey_36 (by repeat (first | with_reducible assumption | refine ex_eq ?_ | refine ex_ne ?_ (by omega) | exact ex_lt (by with_reducible assumption) | rw [List.length_set] | assumption)) ⟨rfl, by omega, by decide⟩ ?_
        refine ew_istore_n (M := mX4_greatestGrey) dX4_greatestGrey_37 (by decide) rfl ?_
        first | (rw [(hct i hi).1]) | skip
        refine ew_iinc (M := mX4_greatestGrey) dX4_greatestGrey_38 rfl (ex_inc i) (by decide) rfl ?_
        refine ew_goto (M := mX4_greatestGrey) (tgt := 4) dX4_greatestGrey_41 rfl ?_
        simp only [c18, ↓reduceIte] at k
        try simp only [c28, ↓reduceIte] at k
        refine ew_ls _ ?_ k
        exact ⟨rfl, rfl, rfl, trivial⟩
  · refine ew_iload_n (M := mX4_greatestGrey) dX4_greatestGrey_4 rfl ?_
    refine ew_aload_n (M := mX4_greatestGrey) dX4_greatestGrey_5 rfl (Or.inr (Or.inl ⟨_, rfl⟩)) ?_
    refine ew_callV (M := mX4_greatestGrey) dX4_greatestGrey_6 vX4_38 (by repeat (first | with_reducible assumption | refine ex_eq ?_ | refine ex_ne ?_ (by omega) | exact ex_lt (by with_reducible assumption) | rw [List.length_set] | assumption)) rfl (sp_dots hp) rfl (Nat.le_of_ble_eq_true rfl) ⟨Nat.le_refl _, Nat.le_refl _⟩ rfl (fun H6 r6 q6 => ?_)
    obtain ⟨rfl, rfl⟩ := q6
    refine ew_icmp_ge (M := mX4_greatestGrey) (tgt := 44) dX4_greatestGrey_9 rfl (fun _ => ?_) (fun h => absurd (nI_le (Nat.le_refl _) (by omega)) h)
    refine ew_iload_n (M := mX4_greatestGrey) dX4_greatestGrey_44 rfl ?_
    refine ew_iret (M := mX4_greatestGrey) dX4_greatestGrey_45 rfl (by first | rfl | decide) (Nat.le_refl _) (Nat.le_refl _) ?_
    exact ⟨rfl, rfl⟩
def pm_sum (w h : Nat) (g m : Nat → Nat) : Int32 := fl (fun k (s : Int32) => if m k = 0 then s + nI (g k) else s) (w * h) (nI 0)
theorem sp_greysTogether {d : Nat} {H : ex_H} {p w h : Nat} {g m : Nat → Nat} (hp : pi_is H p w h g m) : ex_Met mX4_greysTogether (d + 1) 0 0 H [.ref p] (ex_r H (.int (pm_sum w h g m))) := by
  obtain ⟨hok, gs, ms, hp0, hct⟩ := id hp
  obtain ⟨hz, hgm⟩ := id hok
  obtain ⟨hp1, hp2, hp3⟩ := id hp0
  have h80 := pi_80 hz
  obtain ⟨hz1, hz2, hz3, hz4⟩ := id hz
  refine ex_meth [(0, .ref p)] rfl rfl rfl (fun b => Nat.le_of_ble_eq_true rfl) ?_
  refine ew_iconst (M := mX4_greysTogether) dX4_greysTogether_0 (v := nI 0) (by decide) ?_
  refine ew_istore_n (M := mX4_greysTogether) dX4_greysTogether_1 (by decide) rfl ?_
  refine ew_iconst (M := mX4_greysTogether) dX4_greysTogether_2 (v := nI 0) (by decide) ?_
  refine ew_istore_n (M := mX4_greysTogether) dX4_greysTogether_3 (by decide) rfl ?_
  refine ew_ls [(0, .ref p), (1, .int (nI 0)), (2, .int (nI 0))] ⟨rfl, rfl, rfl, trivial⟩ ?_
  refine fl_down (F := fun k (s : Int32) => if m k = 0 then s + nI (g k) else s) (P := fun i s => ex_W mX4_greysTogether (d + 1) 0 0 _ H 4 [(0, .ref p), (1, .int s), (2, .int (nI i))] [] 0 0) (w * h) (nI 0) (fun i s hi _ k => ?_) ?_
  · refine ew_iload_n (M := mX4_greysTogether) dX4_greysTogether_4 rfl ?_
    refine ew_aload_n (M := mX4_greysTogether) dX4_greysTogether_5 rfl (Or.inr (Or.inl ⟨_, rfl⟩)) ?_
    refine ew_callV (M := mX4_greysTogether) dX4_greysTogether_6 vX4_38 (by repeat (first | with_reducible assumption | refine ex_eq ?_ | refine ex_ne ?_ (by omega) | exact ex_lt (by with_reducible assumption) | rw [List.length_set] | assumption)) rfl (sp_dots hp) rfl (Nat.le_of_ble_eq_true rfl) ⟨Nat.le_refl _, Nat.le_refl _⟩ rfl (fun H6 r6 q6 => ?_)
    obtain ⟨rfl, rfl⟩ := q6
    refine ew_icmp_ge (M := mX4_greysTogether) (tgt := 36) dX4_greysTogether_9 rfl (fun h => absurd h (nI_ge hi (by omega))) (fun _ => ?_)
    refine ew_aload_n (M := mX4_greysTogether) dX4_greysTogether_12 rfl (Or.inr (Or.inl ⟨_, rfl⟩)) ?_
    refine ew_get (M := mX4_greysTogether) dX4_greysTogether_13 fX4_22 (by repeat (first | with_reducible assumption | refine ex_eq ?_ | refine ex_ne ?_ (by omega) | exact ex_lt (by with_reducible assumption) | rw [List.length_set] | assumption)) (by rfl) ?_
    refine ew_iload_n (M := mX4_greysTogether) dX4_greysTogether_16 rfl ?_
    refine ew_zald (M := mX4_greysTogether) i dX4_greysTogether_17 (by repeat (first | with_reducible assumption | refine ex_eq ?_ | refine ex_ne ?_ (by omega) | exact ex_lt (by with_reducible assumption) | rw [List.length_set] | assumption)) ⟨rfl, by omega, by decide⟩ ?_
    refine ew_if_ne (M := mX4_greysTogether) (tgt := 30) dX4_greysTogether_18 rfl (fun c18 => ?_) (fun c18 => ?_)
    · rw [(hct i hi).2, nI_z (by have := (hgm i hi).2; omega)] at c18
      first | (rw [(hct i hi).1]) | skip
      refine ew_iinc (M := mX4_greysTogether) dX4_greysTogether_30 rfl (ex_inc i) (by decide) rfl ?_
      refine ew_goto (M := mX4_greysTogether) (tgt := 4) dX4_greysTogether_33 rfl ?_
      simp only [c18, ↓reduceIte] at k
      refine ew_ls _ ?_ k
      exact ⟨rfl, rfl, rfl, trivial⟩
    · rw [(hct i hi).2, nI_z (by have := (hgm i hi).2; omega)] at c18
      refine ew_iload_n (M := mX4_greysTogether) dX4_greysTogether_21 rfl ?_
      refine ew_aload_n (M := mX4_greysTogether) dX4_greysTogether_22 rfl (Or.inr (Or.inl ⟨_, rfl⟩)) ?_
      refine ew_get (M := mX4_greysTogether) dX4_greysTogether_23 fX4_18 (by repeat (first | with_reducible assumption | refine ex_eq ?_ | refine ex_ne ?_ (by omega) | exact ex_lt (by with_reducible assumption) | rw [List.length_set] | assumption)) (by rfl) ?_
      refine ew_iload_n (M := mX4_greysTogether) dX4_greysTogether_26 rfl ?_
      refine ew_iald (M := mX4_greysTogether) i dX4_greysTogether_27 (by repeat (first | with_reducible assumption | refine ex_eq ?_ | refine ex_ne ?_ (by omega) | exact ex_lt (by with_reducible assumption) | rw [List.length_set] | assumption)) ⟨rfl, by omega, by decide⟩ ?_
      refine ew_iadd (M := mX4_greysTogether) dX4_greysTogether_28 ?_
      refine ew_istore_n (M := mX4_greysTogether) dX4_greysTogether_29 (by decide) rfl ?_
      first | (rw [(hct i hi).1]) | skip
      refine ew_iinc (M := mX4_greysTogether) dX4_greysTogether_30 rfl (ex_inc i) (by decide) rfl ?_
      refine ew_goto (M := mX4_greysTogether) (tgt := 4) dX4_greysTogether_33 rfl ?_
      simp only [c18, ↓reduceIte] at k
      refine ew_ls _ ?_ k
      exact ⟨rfl, rfl, rfl, trivial⟩
  · refine ew_iload_n (M := mX4_greysTogether) dX4_greysTogether_4 rfl ?_
    refine ew_aload_n (M := mX4_greysTogether) dX4_greysTogether_5 rfl (Or.inr (Or.inl ⟨_, rfl⟩)) ?_
    refine ew_callV (M := mX4_greysTogether) dX4_greysTogether_6 vX4_38 (by repeat (first | with_reducible assumption | refine ex_eq ?_ | refine ex_ne ?_ (by omega) | exact ex_lt (by with_reducible assumption) | rw [List.length_set] | assumption)) rfl (sp_dots hp) rfl (Nat.le_of_ble_eq_true rfl) ⟨Nat.le_refl _, Nat.le_refl _⟩ rfl (fun H6 r6 q6 => ?_)
    obtain ⟨rfl, rfl⟩ := q6
    refine ew_icmp_ge (M := mX4_greysTogether) (tgt := 36) dX4_greysTogether_9 rfl (fun _ => ?_) (fun h => absurd (nI_le (Nat.le_refl _) (by omega)) h)
    refine ew_iload_n (M := mX4_greysTogether) dX4_greysTogether_36 rfl ?_
    refine ew_iret (M := mX4_greysTogether) dX4_greysTogether_37 rfl (by first | rfl | decide) (Nat.le_refl _) (Nat.le_refl _) ?_
    exact ⟨rfl, rfl⟩
end
section
theorem nat_down {P : Nat → Prop} (n : Nat) (hs : ∀ i, i < n → P (i + 1) → P i) (he : P n) : P 0 := by
  have key : ∀ k, k ≤ n → P k → P 0 := by
    intro k
    induction k with
    | zero => intro _ h; exact h
    | succ k ih => intro hk h; exact ih (by omega) (hs k (by omega) h)
  exact key n (Nat.le_refl n) he
theorem nI_and1 {v : Nat} (hv : v < 2) : nI v &&& 1 = nI v := by
  rcases (show v = 0 ∨ v = 1 by omega) with rfl | rfl <;> decide
theorem sp_dots0 {d : Nat} {H : ex_H} {p w h : Nat} {a b : Value} (hp : H[p]? = some (ob 4 [.int (nI w), .int (nI h), a, b])) : ex_Met mX4_dots d 0 0 H [.ref p] (ex_r H (.int (nI (w * h)))) := by
  refine ex_meth [(0, .ref p)] rfl rfl rfl (fun b => Nat.le_of_ble_eq_true rfl) ?_
  refine ew_aload_n (M := mX4_dots) dX4_dots_0 rfl (Or.inr (Or.inl ⟨_, rfl⟩)) ?_
  refine ew_get (M := mX4_dots) dX4_dots_1 fX4_9 (by repeat (first | with_reducible assumption | refine ex_eq ?_ | refine ex_ne ?_ (by omega) | exact ex_lt (by with_reducible assumption) | rw [List.length_set] | assumption)) (by rfl) ?_
  refine ew_aload_n (M := mX4_dots) dX4_dots_4 rfl (Or.inr (Or.inl ⟨_, rfl⟩)) ?_
  refine ew_get (M := mX4_dots) dX4_dots_5 fX4_15 (by repeat (first | with_reducible assumption | refine ex_eq ?_ | refine ex_ne ?_ (by omega) | exact ex_lt (by with_reducible assumption) | rw [List.length_set] | assumption)) (by rfl) ?_
  refine ew_imul (M := mX4_dots) dX4_dots_8 ?_
  refine ew_iret (M := mX4_dots) dX4_dots_9 rfl (by first | rfl | decide) (Nat.le_refl _) (Nat.le_refl _) ?_
  exact ⟨rfl, by rw [pk_mul]⟩
theorem sp_has0 {d : Nat} {H : ex_H} {p w h : Nat} {a b : Value} (hp : H[p]? = some (ob 4 [.int (nI w), .int (nI h), a, b])) (hz : pi_sz w h) {i j : Nat} (hi : i < w) (hj : j < h) : ex_Met mX4_has d 0 0 H [.ref p, .int (nI i), .int (nI j)] (ex_r H (.int (nI 1))) := by
  obtain ⟨hz1, hz2, hz3, hz4⟩ := id hz
  refine ex_meth [(0, .ref p), (1, .int (nI i)), (2, .int (nI j))] rfl rfl rfl (fun b => Nat.le_of_ble_eq_true rfl) ?_
  refine ew_iconst (M := mX4_has) dX4_has_0 (v := nI 0) (by decide) ?_
  refine ew_iload_n (M := mX4_has) dX4_has_1 rfl ?_
  refine ew_icmp_gt (M := mX4_has) (tgt := 30) dX4_has_2 rfl (fun h => absurd h (nI_nlt (Nat.zero_le i) (by omega))) (fun _ => ?_)
  refine ew_iload_n (M := mX4_has) dX4_has_5 rfl ?_
  refine ew_aload_n (M := mX4_has) dX4_has_6 rfl (Or.inr (Or.inl ⟨_, rfl⟩)) ?_
  refine ew_get (M := mX4_has) dX4_has_7 fX4_9 (by repeat (first | with_reducible assumption | refine ex_eq ?_ | refine ex_ne ?_ (by omega) | exact ex_lt (by with_reducible assumption) | rw [List.length_set] | assumption)) (by rfl) ?_
  refine ew_icmp_ge (M := mX4_has) (tgt := 30) dX4_has_10 rfl (fun h => absurd h (nI_ge hi (by omega))) (fun _ => ?_)
  refine ew_iconst (M := mX4_has) dX4_has_13 (v := nI 0) (by decide) ?_
  refine ew_iload_n (M := mX4_has) dX4_has_14 rfl ?_
  refine ew_icmp_gt (M := mX4_has) (tgt := 30) dX4_has_15 rfl (fun h => absurd h (nI_nlt (Nat.zero_le j) (by omega))) (fun _ => ?_)
  refine ew_iload_n (M := mX4_has) dX4_has_18 rfl ?_
  refine ew_aload_n (M := mX4_has) dX4_has_19 rfl (Or.inr (Or.inl ⟨_, rfl⟩)) ?_
  refine ew_get (M := mX4_has) dX4_has_20 fX4_15 (by repeat (first | with_reducible assumption | refine ex_eq ?_ | refine ex_ne ?_ (by omega) | exact ex_lt (by with_reducible assumption) | rw [List.length_set] | assumption)) (by rfl) ?_
  refine ew_icmp_ge (M := mX4_has) (tgt := 30) dX4_has_23 rfl (fun h => absurd h (nI_ge hj (by omega))) (fun _ => ?_)
  refine ew_iconst (M := mX4_has) dX4_has_26 (v := nI 1) (by decide) ?_
  refine ew_goto (M := mX4_has) (tgt := 31) dX4_has_27 rfl ?_
  refine ew_iret (M := mX4_has) dX4_has_31 rfl (by first | rfl | decide) (Nat.le_refl _) (Nat.le_refl _) ?_
  exact ⟨rfl, rfl⟩
theorem sp_setGrey0 {d : Nat} {H : ex_H} {p w h : Nat} {gs ms : Nat → Int32} (hp : pi_at H p w h gs ms) (hz : pi_sz w h) {i j : Nat} (hi : i < w) (hj : j < h) {v : Int32} : ex_Met mX4_setGrey (d + 1) 0 0 H [.ref p, .int (nI i), .int (nI j), .int v] (fun H' r => H.set (p + 1) (ar .int 80 (upd gs (j * w + i) v)) = H' ∧ r = none) := by
  obtain ⟨hp1, hp2, hp3⟩ := id hp
  have h80 := pi_80 hz
  have hb := pi_lt hi hj
  refine ex_meth [(0, .ref p), (1, .int (nI i)), (2, .int (nI j)), (3, .int v)] rfl rfl rfl (fun b => Nat.le_of_ble_eq_true rfl) ?_
  refine ew_aload_n (M := mX4_setGrey) dX4_setGrey_0 rfl (Or.inr (Or.inl ⟨_, rfl⟩)) ?_
  refine ew_iload_n (M := mX4_setGrey) dX4_setGrey_1 rfl ?_
  refine ew_iload_n (M := mX4_setGrey) dX4_setGrey_2 rfl ?_
  refine ew_callV (M := mX4_setGrey) dX4_setGrey_3 vX4_26 (by repeat (first | with_reducible assumption | refine ex_eq ?_ | refine ex_ne ?_ (by omega) | exact ex_lt (by with_reducible assumption) | rw [List.length_set] | assumption)) rfl (sp_has0 hp1 hz hi hj) rfl (Nat.le_of_ble_eq_true rfl) ⟨Nat.le_refl _, Nat.le_refl _⟩ rfl (fun H3 r3 q3 => ?_)
  obtain ⟨rfl, rfl⟩ := q3
  refine ew_if_eq (M := mX4_setGrey) (tgt := 23) dX4_setGrey_6 rfl (fun h => absurd h (by decide)) (fun _ => ?_)
  refine ew_aload_n (M := mX4_setGrey) dX4_setGrey_9 rfl (Or.inr (Or.inl ⟨_, rfl⟩)) ?_
  refine ew_get (M := mX4_setGrey) dX4_setGrey_10 fX4_18 (by repeat (first | with_reducible assumption | refine ex_eq ?_ | refine ex_ne ?_ (by omega) | exact ex_lt (by with_reducible assumption) | rw [List.length_set] | assumption)) (by rfl) ?_
  refine ew_iload_n (M := mX4_setGrey) dX4_setGrey_13 rfl ?_
  refine ew_aload_n (M := mX4_setGrey) dX4_setGrey_14 rfl (Or.inr (Or.inl ⟨_, rfl⟩)) ?_
  refine ew_get (M := mX4_setGrey) dX4_setGrey_15 fX4_9 (by repeat (first | with_reducible assumption | refine ex_eq ?_ | refine ex_ne ?_ (by omega) | exact ex_lt (by with_reducible assumption) | rw [List.length_set] | assumption)) (by rfl) ?_
  refine ew_imul (M := mX4_setGrey) dX4_setGrey_18 ?_
  refine ew_iload_n (M := mX4_setGrey) dX4_setGrey_19 rfl ?_
  refine ew_iadd (M := mX4_setGrey) dX4_setGrey_20 ?_
  refine ew_iload_n (M := mX4_setGrey) dX4_setGrey_21 rfl ?_
  refine ew_iast (M := mX4_setGrey) (j * w + i) dX4_setGrey_22 (by repeat (first | with_reducible assumption | refine ex_eq ?_ | refine ex_ne ?_ (by omega) | exact ex_lt (by with_reducible assumption) | rw [List.length_set] | assumption)) ⟨by rw [pk_mul, nI_add], by omega, by decide⟩ ?_
  refine ew_vret (M := mX4_setGrey) dX4_setGrey_23 rfl (Nat.le_refl _) (Nat.le_refl _) ?_
  exact ⟨rfl, rfl⟩
theorem sp_setMasked0 {d : Nat} {H : ex_H} {p w h : Nat} {gs ms : Nat → Int32} (hp : pi_at H p w h gs ms) (hz : pi_sz w h) {i j v : Nat} (hi : i < w) (hj : j < h) (hv : v < 2) : ex_Met mX4_setMasked (d + 1) 0 0 H [.ref p, .int (nI i), .int (nI j), .int (nI v)] (fun H' r => H.set (p + 2) (ar .boolean 80 (upd ms (j * w + i) (nI v))) = H' ∧ r = none) := by
  obtain ⟨hp1, hp2, hp3⟩ := id hp
  have h80 := pi_80 hz
  have hb := pi_lt hi hj
  have hv1 := nI_and1 hv
  refine ex_meth [(0, .ref p), (1, .int (nI i)), (2, .int (nI j)), (3, .int (nI v))] rfl rfl rfl (fun b => Nat.le_of_ble_eq_true rfl) ?_
  refine ew_aload_n (M := mX4_setMasked) dX4_setMasked_0 rfl (Or.inr (Or.inl ⟨_, rfl⟩)) ?_
  refine ew_iload_n (M := mX4_setMasked) dX4_setMasked_1 rfl ?_
  refine ew_iload_n (M := mX4_setMasked) dX4_setMasked_2 rfl ?_
  refine ew_callV (M := mX4_setMasked) dX4_setMasked_3 vX4_26 (by repeat (first | with_reducible assumption | refine ex_eq ?_ | refine ex_ne ?_ (by omega) | exact ex_lt (by with_reducible assumption) | rw [List.length_set] | assumption)) rfl (sp_has0 hp1 hz hi hj) rfl (Nat.le_of_ble_eq_true rfl) ⟨Nat.le_refl _, Nat.le_refl _⟩ rfl (fun H3 r3 q3 => ?_)
  obtain ⟨rfl, rfl⟩ := q3
  refine ew_if_eq (M := mX4_setMasked) (tgt := 23) dX4_setMasked_6 rfl (fun h => absurd h (by decide)) (fun _ => ?_)
  refine ew_aload_n (M := mX4_setMasked) dX4_setMasked_9 rfl (Or.inr (Or.inl ⟨_, rfl⟩)) ?_
  refine ew_get (M := mX4_setMasked) dX4_setMasked_10 fX4_22 (by repeat (first | with_reducible assumption | refine ex_eq ?_ | refine ex_ne ?_ (by omega) | exact ex_lt (by with_reducible assumption) | rw [List.length_set] | assumption)) (by rfl) ?_
  refine ew_iload_n (M := mX4_setMasked) dX4_setMasked_13 rfl ?_
  refine ew_aload_n (M := mX4_setMasked) dX4_setMasked_14 rfl (Or.inr (Or.inl ⟨_, rfl⟩)) ?_
  refine ew_get (M := mX4_setMasked) dX4_setMasked_15 fX4_9 (by repeat (first | with_reducible assumption | refine ex_eq ?_ | refine ex_ne ?_ (by omega) | exact ex_lt (by with_reducible assumption) | rw [List.length_set] | assumption)) (by rfl) ?_
  refine ew_imul (M := mX4_setMasked) dX4_setMasked_18 ?_
  refine ew_iload_n (M := mX4_setMasked) dX4_setMasked_19 rfl ?_
  refine ew_iadd (M := mX4_setMasked) dX4_setMasked_20 ?_
  refine ew_iload_n (M := mX4_setMasked) dX4_setMasked_21 rfl ?_
  refine ew_zast (M := mX4_setMasked) (j * w + i) dX4_setMasked_22 (by repeat (first | with_reducible assumption | refine ex_eq ?_ | refine ex_ne ?_ (by omega) | exact ex_lt (by with_reducible assumption) | rw [List.length_set] | assumption)) ⟨by rw [pk_mul, nI_add], by omega, by decide⟩ (by assumption) ?_
  refine ew_vret (M := mX4_setMasked) dX4_setMasked_23 rfl (Nat.le_refl _) (Nat.le_refl _) ?_
  exact ⟨rfl, rfl⟩
theorem sp_setInOrder {d : Nat} {H : ex_H} {p w h : Nat} {gs ms : Nat → Int32} (hp : pi_at H p w h gs ms) {k v : Nat} {x : Int32} (hk : k < 80) (hv : v < 2) : ex_Met mX4_setInOrder (d + 1) 0 0 H [.ref p, .int (nI k), .int x, .int (nI v)] (fun H' r => r = none ∧ ex_ch H H' [p + 1, p + 2] ∧ pi_at H' p w h (upd gs k x) (upd ms k (nI v))) := by
  obtain ⟨hp1, hp2, hp3⟩ := id hp
  have hv1 := nI_and1 hv
  refine ex_meth [(0, .ref p), (1, .int (nI k)), (2, .int x), (3, .int (nI v))] rfl rfl rfl (fun b => Nat.le_of_ble_eq_true rfl) ?_
  refine ew_iload_n (M := mX4_setInOrder) dX4_setInOrder_0 rfl ?_
  refine ew_iconst (M := mX4_setInOrder) dX4_setInOrder_1 (v := nI 0) (by decide) ?_
  refine ew_bipush (M := mX4_setInOrder) dX4_setInOrder_2 (v := nI 79) (by decide) ?_
  refine ew_callS (M := mX4_setInOrder) dX4_setInOrder_4 vX4_30 (sp_within_y (nI_le (Nat.zero_le k) (by omega)) (nI_le (b := 79) (by omega) (by decide))) rfl (Nat.le_of_ble_eq_true rfl) ⟨Nat.le_refl _, Nat.le_refl _⟩ rfl (fun H4 r4 q4 => ?_)
  obtain ⟨rfl, rfl⟩ := q4
  refine ew_if_eq (M := mX4_setInOrder) (tgt := 24) dX4_setInOrder_7 rfl (fun h => absurd h (by decide)) (fun _ => ?_)
  refine ew_aload_n (M := mX4_setInOrder) dX4_setInOrder_10 rfl (Or.inr (Or.inl ⟨_, rfl⟩)) ?_
  refine ew_get (M := mX4_setInOrder) dX4_setInOrder_11 fX4_18 (by repeat (first | with_reducible assumption | refine ex_eq ?_ | refine ex_ne ?_ (by omega) | exact ex_lt (by with_reducible assumption) | rw [List.length_set] | assumption)) (by rfl) ?_
  refine ew_iload_n (M := mX4_setInOrder) dX4_setInOrder_14 rfl ?_
  refine ew_iload_n (M := mX4_setInOrder) dX4_setInOrder_15 rfl ?_
  refine ew_iast (M := mX4_setInOrder) k dX4_setInOrder_16 (by repeat (first | with_reducible assumption | refine ex_eq ?_ | refine ex_ne ?_ (by omega) | exact ex_lt (by with_reducible assumption) | rw [List.length_set] | assumption)) ⟨rfl, hk, by decide⟩ ?_
  refine ew_aload_n (M := mX4_setInOrder) dX4_setInOrder_17 rfl (Or.inr (Or.inl ⟨_, rfl⟩)) ?_
  refine ew_get (M := mX4_setInOrder) dX4_setInOrder_18 fX4_22 (by repeat (first | with_reducible assumption | refine ex_eq ?_ | refine ex_ne ?_ (by omega) | exact ex_lt (by with_reducible assumption) | rw [List.length_set] | assumption)) (by rfl) ?_
  refine ew_iload_n (M := mX4_setInOrder) dX4_setInOrder_21 rfl ?_
  refine ew_iload_n (M := mX4_setInOrder) dX4_setInOrder_22 rfl ?_
  refine ew_zast (M := mX4_setInOrder) k dX4_setInOrder_23 (by repeat (first | with_reducible assumption | refine ex_eq ?_ | refine ex_ne ?_ (by omega) | exact ex_lt (by with_reducible assumption) | rw [List.length_set] | assumption)) ⟨rfl, hk, by decide⟩ (by assumption) ?_
  refine ew_vret (M := mX4_setInOrder) dX4_setInOrder_24 rfl (Nat.le_refl _) (Nat.le_refl _) ?_
  exact ⟨rfl, (ex_ch.rf.set (by simp)).set (by simp), (by repeat (first | with_reducible assumption | refine ex_eq ?_ | refine ex_ne ?_ (by omega) | exact ex_lt (by with_reducible assumption) | rw [List.length_set] | assumption)), (by repeat (first | with_reducible assumption | refine ex_eq ?_ | refine ex_ne ?_ (by omega) | exact ex_lt (by with_reducible assumption) | rw [List.length_set] | assumption)), (by repeat (first | with_reducible assumption | refine ex_eq ?_ | refine ex_ne ?_ (by omega) | exact ex_lt (by with_reducible assumption) | rw [List.length_set] | assumption))⟩
theorem sp_setSize {d : Nat} {H : ex_H} {p w h w0 h0 : Nat} {gs ms : Nat → Int32} (hp : pi_at H p w0 h0 gs ms) (hz : pi_sz w h) : ex_Met mX4_setSize (d + 1) 0 0 H [.ref p, .int (nI w), .int (nI h)] (fun H' r => r = none ∧ ex_ch H H' [p] ∧ pi_at H' p w h gs ms) := by
  obtain ⟨hp1, hp2, hp3⟩ := id hp
  obtain ⟨hz1, hz2, hz3, hz4⟩ := id hz
  refine ex_meth [(0, .ref p), (1, .int (nI w)), (2, .int (nI h))] rfl rfl rfl (fun b => Nat.le_of_ble_eq_true rfl) ?_
  refine ew_iload_n (M := mX4_setSize) dX4_setSize_0 rfl ?_
  refine ew_iconst (M := mX4_setSize) dX4_setSize_1 (v := nI 1) (by decide) ?_
  refine ew_bipush (M := mX4_setSize) dX4_setSize_2 (v := nI 10) (by decide) ?_
  refine ew_callS (M := mX4_setSize) dX4_setSize_4 vX4_30 (sp_within_y (nI_le hz1 (by omega)) (nI_le hz2 (by decide))) rfl (Nat.le_of_ble_eq_true rfl) ⟨Nat.le_refl _, Nat.le_refl _⟩ rfl (fun H4 r4 q4 => ?_)
  obtain ⟨rfl, rfl⟩ := q4
  refine ew_if_eq (M := mX4_setSize) (tgt := 30) dX4_setSize_7 rfl (fun h => absurd h (by decide)) (fun _ => ?_)
  refine ew_iload_n (M := mX4_setSize) dX4_setSize_10 rfl ?_
  refine ew_iconst (M := mX4_setSize) dX4_setSize_11 (v := nI 1) (by decide) ?_
  refine ew_bipush (M := mX4_setSize) dX4_setSize_12 (v := nI 8) (by decide) ?_
  refine ew_callS (M := mX4_setSize) dX4_setSize_14 vX4_30 (sp_within_y (nI_le hz3 (by omega)) (nI_le hz4 (by decide))) rfl (Nat.le_of_ble_eq_true rfl) ⟨Nat.le_refl _, Nat.le_refl _⟩ rfl (fun H14 r14 q14 => ?_)
  obtain ⟨rfl, rfl⟩ := q14
  refine ew_if_eq (M := mX4_setSize) (tgt := 30) dX4_setSize_17 rfl (fun h => absurd h (by decide)) (fun _ => ?_)
  refine ew_aload_n (M := mX4_setSize) dX4_setSize_20 rfl (Or.inr (Or.inl ⟨_, rfl⟩)) ?_
  refine ew_iload_n (M := mX4_setSize) dX4_setSize_21 rfl ?_
  refine ew_put (M := mX4_setSize) dX4_setSize_22 fX4_9 (by repeat (first | with_reducible assumption | refine ex_eq ?_ | refine ex_ne ?_ (by omega) | exact ex_lt (by with_reducible assumption) | rw [List.length_set] | assumption)) (by exact Nat.le_of_ble_eq_true rfl) ⟨rfl, rfl, fun _ h => by cases h⟩ ?_
  refine ew_aload_n (M := mX4_setSize) dX4_setSize_25 rfl (Or.inr (Or.inl ⟨_, rfl⟩)) ?_
  refine ew_iload_n (M := mX4_setSize) dX4_setSize_26 rfl ?_
  refine ew_put (M := mX4_setSize) dX4_setSize_27 fX4_15 (by repeat (first | with_reducible assumption | refine ex_eq ?_ | refine ex_ne ?_ (by omega) | exact ex_lt (by with_reducible assumption) | rw [List.length_set] | assumption)) (by exact Nat.le_of_ble_eq_true rfl) ⟨rfl, rfl, fun _ h => by cases h⟩ ?_
  refine ew_vret (M := mX4_setSize) dX4_setSize_30 rfl (Nat.le_refl _) (Nat.le_refl _) ?_
  exact ⟨rfl, (ex_ch.rf.set (by simp)).set (by simp), ex_eq (by rw [List.length_set]; exact ex_lt hp1), (by repeat (first | with_reducible assumption | refine ex_eq ?_ | refine ex_ne ?_ (by omega) | exact ex_lt (by with_reducible assumption) | rw [List.length_set] | assumption)), (by repeat (first | with_reducible assumption | refine ex_eq ?_ | refine ex_ne ?_ (by omega) | exact ex_lt (by with_reducible assumption) | rw [List.length_set] | assumption))⟩
theorem sp_become {d : Nat} {H : ex_H} {p q w h w0 h0 : Nat} {g m : Nat → Nat} {gs0 ms0 : Nat → Int32} (hp : pi_at H p w0 h0 gs0 ms0) (hq : pi_is H q w h g m) (hpq : p + 2 < q ∨ q + 2 < p) : ex_Met mX4_become (d + 2) 0 0 H [.ref p, .ref q] (fun H' r => r = none ∧ ex_ch H H' [p, p + 1, p + 2] ∧ pi_is H' p w h g m) := by
  obtain ⟨hok, gs, ms, hq0, hct⟩ := id hq
  obtain ⟨hz, hgm⟩ := id hok
  obtain ⟨hq1, hq2, hq3⟩ := id hq0
  obtain ⟨hpp1, hpp2, hpp3⟩ := id hp
  have h80 := pi_80 hz
  refine ex_meth [(0, .ref p), (1, .ref q)] rfl rfl rfl (fun b => Nat.le_of_ble_eq_true rfl) ?_
  refine ew_aload_n (M := mX4_become) dX4_become_0 rfl (Or.inr (Or.inl ⟨_, rfl⟩)) ?_
  refine ew_aload_n (M := mX4_become) dX4_become_1 rfl (Or.inr (Or.inl ⟨_, rfl⟩)) ?_
  refine ew_get (M := mX4_become) dX4_become_2 fX4_9 (by repeat (first | with_reducible assumption | refine ex_eq ?_ | refine ex_ne ?_ (by omega) | exact ex_lt (by with_reducible assumption) | rw [List.length_set] | assumption)) (by rfl) ?_
  refine ew_aload_n (M := mX4_become) dX4_become_5 rfl (Or.inr (Or.inl ⟨_, rfl⟩)) ?_
  refine ew_get (M := mX4_become) dX4_become_6 fX4_15 (by repeat (first | with_reducible assumption | refine ex_eq ?_ | refine ex_ne ?_ (by omega) | exact ex_lt (by with_reducible assumption) | rw [List.length_set] | assumption)) (by rfl) ?_
  refine ew_callV (M := mX4_become) dX4_become_9 vX4_34 (by repeat (first | with_reducible assumption | refine ex_eq ?_ | refine ex_ne ?_ (by omega) | exact ex_lt (by with_reducible assumption) | rw [List.length_set] | assumption)) rfl (sp_setSize hp hz) rfl (Nat.le_of_ble_eq_true rfl) ⟨Nat.le_refl _, Nat.le_refl _⟩ rfl (fun H9 r9 q9 => ?_)
  obtain ⟨rfl, hc1, hp1⟩ := q9
  refine ew_iconst (M := mX4_become) dX4_become_12 (v := nI 0) (by decide) ?_
  refine ew_istore_n (M := mX4_become) dX4_become_13 (by decide) rfl ?_
  refine ew_ls [(0, .ref p), (1, .ref q), (2, .int (nI 0))] ⟨rfl, rfl, rfl, trivial⟩ ?_
  refine nat_down (P := fun i => ∀ (H2 : ex_H) (f e : Nat → Int32), ex_ch H9 H2 [p + 1, p + 2] → pi_at H2 p w h f e → (∀ k, k < i → f k = nI (g k) ∧ e k = nI (m k)) → ex_W mX4_become (d + 2) 0 0 _ H2 14 [(0, .ref p), (1, .ref q), (2, .int (nI i))] [] 0 0) (w * h) (fun i hi k => ?_) ?_ H9 _ _ ex_ch.rf hp1 (fun k hk => absurd hk (Nat.not_lt_zero k))
  · intro H2 f e hc2 hp2 hfe
    obtain ⟨hp21, hp22, hp23⟩ := id hp2
    have hq0 := (pi_at.ch hc1 hq0 (by simp; omega) (by simp; omega) (by simp; omega)).ch hc2 (by simp; omega) (by simp; omega) (by simp; omega)
    obtain ⟨hq1, hq2, hq3⟩ := hq0
    have hm1 := nI_and1 (hgm i hi).2
    obtain ⟨hg1, hg2⟩ := hct i hi
    refine ew_iload_n (M := mX4_become) dX4_become_14 rfl ?_
    refine ew_aload_n (M := mX4_become) dX4_become_15 rfl (Or.inr (Or.inl ⟨_, rfl⟩)) ?_
    refine ew_callV (M := mX4_become) dX4_become_16 vX4_38 (by repeat (first | with_reducible assumption | refine ex_eq ?_ | refine ex_ne ?_ (by omega) | exact ex_lt (by with_reducible assumption) | rw [List.length_set] | assumption)) rfl (sp_dots0 hp21) rfl (Nat.le_of_ble_eq_true rfl) ⟨Nat.le_refl _, Nat.le_refl _⟩ rfl (fun H16 r16 q16 => ?_)
    obtain ⟨rfl, rfl⟩ := q16
    refine ew_icmp_ge (M := mX4_become) (tgt := 52) dX4_become_19 rfl (fun h => absurd h (nI_ge hi (by omega))) (fun _ => ?_)
    refine ew_aload_n (M := mX4_become) dX4_become_22 rfl (Or.inr (Or.inl ⟨_, rfl⟩)) ?_
    refine ew_get (M := mX4_become) dX4_become_23 fX4_18 (by repeat (first | with_reducible assumption | refine ex_eq ?_ | refine ex_ne ?_ (by omega) | exact ex_lt (by with_reducible assumption) | rw [List.length_set] | assumption)) (by rfl) ?_
    refine ew_iload_n (M := mX4_become) dX4_become_26 rfl ?_
    refine ew_aload_n (M := mX4_become) dX4_become_27 rfl (Or.inr (Or.inl ⟨_, rfl⟩)) ?_
    refine ew_get (M := mX4_become) dX4_become_28 fX4_18 (by repeat (first | with_reducible assumption | refine ex_eq ?_ | refine ex_ne ?_ (by omega) | exact ex_lt (by with_reducible assumption) | rw [List.length_set] | assumption)) (by rfl) ?_
    refine ew_iload_n (M := mX4_become) dX4_become_31 rfl ?_
    refine ew_iald (M := mX4_become) i dX4_become_32 (by repeat (first | with_reducible assumption | refine ex_eq ?_ | refine ex_ne ?_ (by omega) | exact ex_lt (by with_reducible assumption) | rw [List.length_set] | assumption)) ⟨rfl, by omega, by decide⟩ ?_
    refine ew_iast (M := mX4_become) i dX4_become_33 (by repeat (first | with_reducible assumption | refine ex_eq ?_ | refine ex_ne ?_ (by omega) | exact ex_lt (by with_reducible assumption) | rw [List.length_set] | assumption)) ⟨rfl, by omega, by decide⟩ ?_
    refine ew_aload_n (M := mX4_become) dX4_become_34 rfl (Or.inr (Or.inl ⟨_, rfl⟩)) ?_
    refine ew_get (M := mX4_become) dX4_become_35 fX4_22 (by repeat (first | with_reducible assumption | refine ex_eq ?_ | refine ex_ne ?_ (by omega) | exact ex_lt (by with_reducible assumption) | rw [List.length_set] | assumption)) (by rfl) ?_
    refine ew_iload_n (M := mX4_become) dX4_become_38 rfl ?_
    refine ew_aload_n (M := mX4_become) dX4_become_39 rfl (Or.inr (Or.inl ⟨_, rfl⟩)) ?_
    refine ew_get (M := mX4_become) dX4_become_40 fX4_22 (by repeat (first | with_reducible assumption | refine ex_eq ?_ | refine ex_ne ?_ (by omega) | exact ex_lt (by with_reducible assumption) | rw [List.length_set] | assumption)) (by rfl) ?_
    refine ew_iload_n (M := mX4_become) dX4_become_43 rfl ?_
    refine ew_zald (M := mX4_become) i dX4_become_44 (by repeat (first | with_reducible assumption | refine ex_eq ?_ | refine ex_ne ?_ (by omega) | exact ex_lt (by with_reducible assumption) | rw [List.length_set] | assumption)) ⟨rfl, by omega, by decide⟩ ?_
    refine ew_zast (M := mX4_become) i dX4_become_45 (by repeat (first | with_reducible assumption | refine ex_eq ?_ | refine ex_ne ?_ (by omega) | exact ex_lt (by with_reducible assumption) | rw [List.length_set] | assumption)) ⟨rfl, by omega, by decide⟩ (by rw [hg2]; exact hm1) ?_
    refine ew_iinc (M := mX4_become) dX4_become_46 rfl (ex_inc i) (by decide) rfl ?_
    refine ew_goto (M := mX4_become) (tgt := 14) dX4_become_49 rfl ?_
    refine ew_ls _ ?_ (k _ (upd f i (gs i)) (upd e i (ms i)) ((hc2.set (by simp)).set (by simp)) ⟨(by repeat (first | with_reducible assumption | refine ex_eq ?_ | refine ex_ne ?_ (by omega) | exact ex_lt (by with_reducible assumption) | rw [List.length_set] | assumption)), (by repeat (first | with_reducible assumption | refine ex_eq ?_ | refine ex_ne ?_ (by omega) | exact ex_lt (by with_reducible assumption) | rw [List.length_set] | assumption)), (by repeat (first | with_reducible assumption | refine ex_eq ?_ | refine ex_ne ?_ (by omega) | exact ex_lt (by with_reducible assumption) | rw [List.length_set] | assumption))⟩ (fun j hj => ?_))
    · exact ⟨rfl, rfl, rfl, trivial⟩
    · by_cases ej : j = i
      · subst ej; simp only [upd, if_true]; exact ⟨hg1, hg2⟩
      · simp only [upd, if_neg ej]; exact hfe j (by omega)
  · intro H2 f e hc2 hp2 hfe
    obtain ⟨hp21, hp22, hp23⟩ := id hp2
    refine ew_iload_n (M := mX4_become) dX4_become_14 rfl ?_
    refine ew_aload_n (M := mX4_become) dX4_become_15 rfl (Or.inr (Or.inl ⟨_, rfl⟩)) ?_
    refine ew_callV (M := mX4_become) dX4_become_16 vX4_38 (by repeat (first | with_reducible assumption | refine ex_eq ?_ | refine ex_ne ?_ (by omega) | exact ex_lt (by with_reducible assumption) | rw [List.length_set] | assumption)) rfl (sp_dots0 hp21) rfl (Nat.le_of_ble_eq_true rfl) ⟨Nat.le_refl _, Nat.le_refl _⟩ rfl (fun H16 r16 q16 => ?_)
    obtain ⟨rfl, rfl⟩ := q16
    refine ew_icmp_ge (M := mX4_become) (tgt := 52) dX4_become_19 rfl (fun _ => ?_) (fun h => absurd (nI_le (Nat.le_refl _) (by omega)) h)
    refine ew_vret (M := mX4_become) dX4_become_52 rfl (Nat.le_refl _) (Nat.le_refl _) ?_
    refine ⟨rfl, (hc1.sub (by simp)).tr hc2 (by simp), hok, f, e, hp2, hfe⟩
def pm_gother (w h : Nat) (g g2 : Nat → Nat) : Nat := fl (fun k n => if g k = g2 k then n else n + 1) (w * h) 0
theorem sp_greysOtherThan {d : Nat} {H : ex_H} {p q w h : Nat} {g m g2 m2 : Nat → Nat} (hp : pi_is H p w h g m) (hq : pi_is H q w h g2 m2) : ex_Met mX4_greysOtherThan (d + 1) 0 0 H [.ref p, .ref q] (ex_r H (.int (nI (pm_gother w h g g2)))) := by
  obtain ⟨hok, gs, ms, hp0, hct⟩ := id hp
  obtain ⟨hz, hgm⟩ := id hok
  obtain ⟨hp1, hp2, hp3⟩ := id hp0
  obtain ⟨⟨-, hgm2⟩, gs2, ms2, ⟨hq1, hq2, hq3⟩, hct2⟩ := id hq
  have h80 := pi_80 hz
  refine ex_meth [(0, .ref p), (1, .ref q)] rfl rfl rfl (fun b => Nat.le_of_ble_eq_true rfl) ?_
  refine ew_iconst (M := mX4_greysOtherThan) dX4_greysOtherThan_0 (v := nI 0) (by decide) ?_
  refine ew_istore_n (M := mX4_greysOtherThan) dX4_greysOtherThan_1 (by decide) rfl ?_
  refine ew_iconst (M := mX4_greysOtherThan) dX4_greysOtherThan_2 (v := nI 0) (by decide) ?_
  refine ew_istore_n (M := mX4_greysOtherThan) dX4_greysOtherThan_3 (by decide) rfl ?_
  refine ew_ls [(0, .ref p), (1, .ref q), (2, .int (nI 0)), (3, .int (nI 0))] ⟨rfl, rfl, rfl, rfl, trivial⟩ ?_
  refine fl_down (F := fun k n => if g k = g2 k then n else n + 1) (P := fun i n => ex_W mX4_greysOtherThan (d + 1) 0 0 _ H 4 [(0, .ref p), (1, .ref q), (2, .int (nI n)), (3, .int (nI i))] [] 0 0) (w * h) 0 (fun i n hi _ k => ?_) ?_
  · refine ew_iload_n (M := mX4_greysOtherThan) dX4_greysOtherThan_4 rfl ?_
    refine ew_aload_n (M := mX4_greysOtherThan) dX4_greysOtherThan_5 rfl (Or.inr (Or.inl ⟨_, rfl⟩)) ?_
    refine ew_callV (M := mX4_greysOtherThan) dX4_greysOtherThan_6 vX4_38 (by repeat (first | with_reducible assumption | refine ex_eq ?_ | refine ex_ne ?_ (by omega) | exact ex_lt (by with_reducible assumption) | rw [List.length_set] | assumption)) rfl (sp_dots hp) rfl (Nat.le_of_ble_eq_true rfl) ⟨Nat.le_refl _, Nat.le_refl _⟩ rfl (fun H6 r6 q6 => ?_)
    obtain ⟨rfl, rfl⟩ := q6
    refine ew_icmp_ge (M := mX4_greysOtherThan) (tgt := 36) dX4_greysOtherThan_9 rfl (fun h => absurd h (nI_ge hi (by omega))) (fun _ => ?_)
    refine ew_aload_n (M := mX4_greysOtherThan) dX4_greysOtherThan_12 rfl (Or.inr (Or.inl ⟨_, rfl⟩)) ?_
    refine ew_get (M := mX4_greysOtherThan) dX4_greysOtherThan_13 fX4_18 (by repeat (first | with_reducible assumption | refine ex_eq ?_ | refine ex_ne ?_ (by omega) | exact ex_lt (by with_reducible assumption) | rw [List.length_set] | assumption)) (by rfl) ?_
    refine ew_iload_n (M := mX4_greysOtherThan) dX4_greysOtherThan_16 rfl ?_
    refine ew_iald (M := mX4_greysOtherThan) i dX4_greysOtherThan_17 (by repeat (first | with_reducible assumption | refine ex_eq ?_ | refine ex_ne ?_ (by omega) | exact ex_lt (by with_reducible assumption) | rw [List.length_set] | assumption)) ⟨rfl, by omega, by decide⟩ ?_
    refine ew_aload_n (M := mX4_greysOtherThan) dX4_greysOtherThan_18 rfl (Or.inr (Or.inl ⟨_, rfl⟩)) ?_
    refine ew_get (M := mX4_greysOtherThan) dX4_greysOtherThan_19 fX4_18 (by repeat (first | with_reducible assumption | refine ex_eq ?_ | refine ex_ne ?_ (by omega) | exact ex_lt (by with_reducible assumption) | rw [List.length_set] | assumption)) (by rfl) ?_
    refine ew_iload_n (M := mX4_greysOtherThan) dX4_greysOtherThan_22 rfl ?_
    refine ew_iald (M := mX4_greysOtherThan) i dX4_greysOtherThan_23 (by repeat (first | with_reducible assumption | refine ex_eq ?_ | refine ex_ne ?_ (by omega) | exact ex_lt (by with_reducible assumption) | rw [List.length_set] | assumption)) ⟨rfl, by omega, by decide⟩ ?_
    refine ew_icmp_eq (M := mX4_greysOtherThan) (tgt := 30) dX4_greysOtherThan_24 rfl (fun c24 => ?_) (fun c24 => ?_)
    · rw [(hct i hi).1, (hct2 i hi).1, nI_eq (by have := (hgm i hi).1; omega) (by have := (hgm2 i hi).1; omega)] at c24
      refine ew_iinc (M := mX4_greysOtherThan) dX4_greysOtherThan_30 rfl (ex_inc i) (by decide) rfl ?_
      refine ew_goto (M := mX4_greysOtherThan) (tgt := 4) dX4_greysOtherThan_33 rfl ?_
      simp only [c24, ↓reduceIte] at k
      refine ew_ls _ ?_ k
      exact ⟨rfl, rfl, rfl, rfl, trivial⟩
    · rw [(hct i hi).1, (hct2 i hi).1, nI_eq (by have := (hgm i hi).1; omega) (by have := (hgm2 i hi).1; omega)] at c24
      refine ew_iinc (M := mX4_greysOtherThan) dX4_greysOtherThan_27 rfl (ex_inc n) (by decide) rfl ?_
      refine ew_iinc (M := mX4_greysOtherThan) dX4_greysOtherThan_30 rfl (ex_inc i) (by decide) rfl ?_
      refine ew_goto (M := mX4_greysOtherThan) (tgt := 4) dX4_greysOtherThan_33 rfl ?_
      simp only [c24, ↓reduceIte] at k
      refine ew_ls _ ?_ k
      exact ⟨rfl, rfl, rfl, rfl, trivial⟩
  · refine ew_iload_n (M := mX4_greysOtherThan) dX4_greysOtherThan_4 rfl ?_
    refine ew_aload_n (M := mX4_greysOtherThan) dX4_greysOtherThan_5 rfl (Or.inr (Or.inl ⟨_, rfl⟩)) ?_
    refine ew_callV (M := mX4_greysOtherThan) dX4_greysOtherThan_6 vX4_38 (by repeat (first | with_reducible assumption | refine ex_eq ?_ | refine ex_ne ?_ (by omega) | exact ex_lt (by with_reducible assumption) | rw [List.length_set] | assumption)) rfl (sp_dots hp) rfl (Nat.le_of_ble_eq_true rfl) ⟨Nat.le_refl _, Nat.le_refl _⟩ rfl (fun H6 r6 q6 => ?_)
    obtain ⟨rfl, rfl⟩ := q6
    refine ew_icmp_ge (M := mX4_greysOtherThan) (tgt := 36) dX4_greysOtherThan_9 rfl (fun _ => ?_) (fun h => absurd (nI_le (Nat.le_refl _) (by omega)) h)
    refine ew_iload_n (M := mX4_greysOtherThan) dX4_greysOtherThan_36 rfl ?_
    refine ew_iret (M := mX4_greysOtherThan) dX4_greysOtherThan_37 rfl (by first | rfl | decide) (Nat.le_refl _) (Nat.le_refl _) ?_
    exact ⟨rfl, rfl⟩
def pm_dother (w h : Nat) (g m g2 m2 : Nat → Nat) : Nat := fl (fun k n => if g k = g2 k then (if m k = m2 k then n else n + 1) else n + 1) (w * h) 0
theorem sp_dotsOtherThan {d : Nat} {H : ex_H} {p q w h : Nat} {g m g2 m2 : Nat → Nat} (hp : pi_is H p w h g m) (hq : pi_is H q w h g2 m2) : ex_Met mX4_dotsOtherThan (d + 1) 0 0 H [.ref p, .ref q] (ex_r H (.int (nI (pm_dother w h g m g2 m2)))) := by
  obtain ⟨hok, gs, ms, hp0, hct⟩ := id hp
  obtain ⟨hz, hgm⟩ := id hok
  obtain ⟨hp1, hp2, hp3⟩ := id hp0
  obtain ⟨⟨-, hgm2⟩, gs2, ms2, ⟨hq1, hq2, hq3⟩, hct2⟩ := id hq
  have h80 := pi_80 hz
  refine ex_meth [(0, .ref p), (1, .ref q)] rfl rfl rfl (fun b => Nat.le_of_ble_eq_true rfl) ?_
  refine ew_aload_n (M := mX4_dotsOtherThan) dX4_dotsOtherThan_0 rfl (Or.inr (Or.inl ⟨_, rfl⟩)) ?_
  refine ew_get (M := mX4_dotsOtherThan) dX4_dotsOtherThan_1 fX4_9 (by repeat (first | with_reducible assumption | refine ex_eq ?_ | refine ex_ne ?_ (by omega) | exact ex_lt (by with_reducible assumption) | rw [List.length_set] | assumption)) (by rfl) ?_
  refine ew_aload_n (M := mX4_dotsOtherThan) dX4_dotsOtherThan_4 rfl (Or.inr (Or.inl ⟨_, rfl⟩)) ?_
  refine ew_get (M := mX4_dotsOtherThan) dX4_dotsOtherThan_5 fX4_9 (by repeat (first | with_reducible assumption | refine ex_eq ?_ | refine ex_ne ?_ (by omega) | exact ex_lt (by with_reducible assumption) | rw [List.length_set] | assumption)) (by rfl) ?_
  refine ew_icmp_ne (M := mX4_dotsOtherThan) (tgt := 22) dX4_dotsOtherThan_8 rfl (fun h => absurd rfl h) (fun _ => ?_)
  refine ew_aload_n (M := mX4_dotsOtherThan) dX4_dotsOtherThan_11 rfl (Or.inr (Or.inl ⟨_, rfl⟩)) ?_
  refine ew_get (M := mX4_dotsOtherThan) dX4_dotsOtherThan_12 fX4_15 (by repeat (first | with_reducible assumption | refine ex_eq ?_ | refine ex_ne ?_ (by omega) | exact ex_lt (by with_reducible assumption) | rw [List.length_set] | assumption)) (by rfl) ?_
  refine ew_aload_n (M := mX4_dotsOtherThan) dX4_dotsOtherThan_15 rfl (Or.inr (Or.inl ⟨_, rfl⟩)) ?_
  refine ew_get (M := mX4_dotsOtherThan) dX4_dotsOtherThan_16 fX4_15 (by repeat (first | with_reducible assumption | refine ex_eq ?_ | refine ex_ne ?_ (by omega) | exact ex_lt (by with_reducible assumption) | rw [List.length_set] | assumption)) (by rfl) ?_
  refine ew_icmp_eq (M := mX4_dotsOtherThan) (tgt := 24) dX4_dotsOtherThan_19 rfl (fun _ => ?_) (fun h => absurd rfl h)
  refine ew_iconst (M := mX4_dotsOtherThan) dX4_dotsOtherThan_24 (v := nI 0) (by decide) ?_
  refine ew_istore_n (M := mX4_dotsOtherThan) dX4_dotsOtherThan_25 (by decide) rfl ?_
  refine ew_iconst (M := mX4_dotsOtherThan) dX4_dotsOtherThan_26 (v := nI 0) (by decide) ?_
  refine ew_istore_n (M := mX4_dotsOtherThan) dX4_dotsOtherThan_27 (by decide) rfl ?_
  refine ew_ls [(0, .ref p), (1, .ref q), (2, .int (nI 0)), (3, .int (nI 0))] ⟨rfl, rfl, rfl, rfl, trivial⟩ ?_
  refine fl_down (F := fun k n => if g k = g2 k then (if m k = m2 k then n else n + 1) else n + 1) (P := fun i n => ex_W mX4_dotsOtherThan (d + 1) 0 0 _ H 28 [(0, .ref p), (1, .ref q), (2, .int (nI n)), (3, .int (nI i))] [] 0 0) (w * h) 0 (fun i n hi _ k => ?_) ?_
  · refine ew_iload_n (M := mX4_dotsOtherThan) dX4_dotsOtherThan_28 rfl ?_
    refine ew_aload_n (M := mX4_dotsOtherThan) dX4_dotsOtherThan_29 rfl (Or.inr (Or.inl ⟨_, rfl⟩)) ?_
    refine ew_callV (M := mX4_dotsOtherThan) dX4_dotsOtherThan_30 vX4_38 (by repeat (first | with_reducible assumption | refine ex_eq ?_ | refine ex_ne ?_ (by omega) | exact ex_lt (by with_reducible assumption) | rw [List.length_set] | assumption)) rfl (sp_dots hp) rfl (Nat.le_of_ble_eq_true rfl) ⟨Nat.le_refl _, Nat.le_refl _⟩ rfl (fun H30 r30 q30 => ?_)
    obtain ⟨rfl, rfl⟩ := q30
    refine ew_icmp_ge (M := mX4_dotsOtherThan) (tgt := 75) dX4_dotsOtherThan_33 rfl (fun h => absurd h (nI_ge hi (by omega))) (fun _ => ?_)
    refine ew_aload_n (M := mX4_dotsOtherThan) dX4_dotsOtherThan_36 rfl (Or.inr (Or.inl ⟨_, rfl⟩)) ?_
    refine ew_get (M := mX4_dotsOtherThan) dX4_dotsOtherThan_37 fX4_18 (by repeat (first | with_reducible assumption | refine ex_eq ?_ | refine ex_ne ?_ (by omega) | exact ex_lt (by with_reducible assumption) | rw [List.length_set] | assumption)) (by rfl) ?_
    refine ew_iload_n (M := mX4_dotsOtherThan) dX4_dotsOtherThan_40 rfl ?_
    refine ew_iald (M := mX4_dotsOtherThan) i dX4_dotsOtherThan_41 (by repeat (first | with_reducible assumption | refine ex_eq ?_ | refine ex_ne ?_ (by omega) | exact ex_lt (by with_reducible assumption) | rw [List.length_set] | assumption)) ⟨rfl, by omega, by decide⟩ ?_
    refine ew_aload_n (M := mX4_dotsOtherThan) dX4_dotsOtherThan_42 rfl (Or.inr (Or.inl ⟨_, rfl⟩)) ?_
    refine ew_get (M := mX4_dotsOtherThan) dX4_dotsOtherThan_43 fX4_18 (by repeat (first | with_reducible assumption | refine ex_eq ?_ | refine ex_ne ?_ (by omega) | exact ex_lt (by with_reducible assumption) | rw [List.length_set] | assumption)) (by rfl) ?_
    refine ew_iload_n (M := mX4_dotsOtherThan) dX4_dotsOtherThan_46 rfl ?_
    refine ew_iald (M := mX4_dotsOtherThan) i dX4_dotsOtherThan_47 (by repeat (first | with_reducible assumption | refine ex_eq ?_ | refine ex_ne ?_ (by omega) | exact ex_lt (by with_reducible assumption) | rw [List.length_set] | assumption)) ⟨rfl, by omega, by decide⟩ ?_
    refine ew_icmp_ne (M := mX4_dotsOtherThan) (tgt := 66) dX4_dotsOtherThan_48 rfl (fun c48 => ?_) (fun c48 => ?_)
    · rw [(hct i hi).1, (hct2 i hi).1, nI_eq (by have := (hgm i hi).1; omega) (by have := (hgm2 i hi).1; omega)] at c48
      refine ew_iinc (M := mX4_dotsOtherThan) dX4_dotsOtherThan_66 rfl (ex_inc n) (by decide) rfl ?_
      refine ew_iinc (M := mX4_dotsOtherThan) dX4_dotsOtherThan_69 rfl (ex_inc i) (by decide) rfl ?_
      refine ew_goto (M := mX4_dotsOtherThan) (tgt := 28) dX4_dotsOtherThan_72 rfl ?_
      simp only [c48, ↓reduceIte] at k
      try simp only [c63, ↓reduceIte] at k
      refine ew_ls _ ?_ k
      exact ⟨rfl, rfl, rfl, rfl, trivial⟩
    · rw [(hct i hi).1, (hct2 i hi).1, nI_eq (by have := (hgm i hi).1; omega) (by have := (hgm2 i hi).1; omega)] at c48
      refine ew_aload_n (M := mX4_dotsOtherThan) dX4_dotsOtherThan_51 rfl (Or.inr (Or.inl ⟨_, rfl⟩)) ?_
      refine ew_get (M := mX4_dotsOtherThan) dX4_dotsOtherThan_52 fX4_22 (by repeat (first | with_reducible assumption | refine ex_eq ?_ | refine ex_ne ?_ (by omega) | exact ex_lt (by with_reducible assumption) | rw [List.length_set] | assumption)) (by rfl) ?_
      refine ew_iload_n (M := mX4_dotsOtherThan) dX4_dotsOtherThan_55 rfl ?_
      refine ew_zald (M := mX4_dotsOtherThan) i dX4_dotsOtherThan_56 (by repeat (first | with_reducible assumption | refine ex_eq ?_ | refine ex_ne ?_ (by omega) | exact ex_lt (by with_reducible assumption) | rw [List.length_set] | assumption)) ⟨rfl, by omega, by decide⟩ ?_
      refine ew_aload_n (M := mX4_dotsOtherThan) dX4_dotsOtherThan_57 rfl (Or.inr (Or.inl ⟨_, rfl⟩)) ?_
      refine ew_get (M := mX4_dotsOtherThan) dX4_dotsOtherThan_58 fX4_22 (by repeat (first | with_reducible assumption | refine ex_eq ?_ | refine ex_ne ?_ (by omega) | exact ex_lt (by with_reducible assumption) | rw [List.length_set] | assumption)) (by rfl) ?_
      refine ew_iload_n (M := mX4_dotsOtherThan) dX4_dotsOtherThan_61 rfl ?_
      refine ew_zald (M := mX4_dotsOtherThan) i dX4_dotsOtherThan_62 (by repeat (first | with_reducible assumption | refine ex_eq ?_ | refine ex_ne ?_ (by omega) | exact ex_lt (by with_reducible assumption) | rw [List.length_set] | assumption)) ⟨rfl, by omega, by decide⟩ ?_
      refine ew_icmp_eq (M := mX4_dotsOtherThan) (tgt := 69) dX4_dotsOtherThan_63 rfl (fun c63 => ?_) (fun c63 => ?_)
      · rw [(hct i hi).2, (hct2 i hi).2, nI_eq (by have := (hgm i hi).2; omega) (by have := (hgm2 i hi).2; omega)] at c63
        refine ew_iinc (M := mX4_dotsOtherThan) dX4_dotsOtherThan_69 rfl (ex_inc i) (by decide) rfl ?_
        refine ew_goto (M := mX4_dotsOtherThan) (tgt := 28) dX4_dotsOtherThan_72 rfl ?_
        simp only [c48, ↓reduceIte] at k
        try simp only [c63, ↓reduceIte] at k
        refine ew_ls _ ?_ k
        exact ⟨rfl, rfl, rfl, rfl, trivial⟩
      · rw [(hct i hi).2, (hct2 i hi).2, nI_eq (by have := (hgm i hi).2; omega) (by have := (hgm2 i hi).2; omega)] at c63
        refine ew_iinc (M := mX4_dotsOtherThan) dX4_dotsOtherThan_66 rfl (ex_inc n) (by decide) rfl ?_
        refine ew_iinc (M := mX4_dotsOtherThan) dX4_dotsOtherThan_69 rfl (ex_inc i) (by decide) rfl ?_
        refine ew_goto (M := mX4_dotsOtherThan) (tgt := 28) dX4_dotsOtherThan_72 rfl ?_
        simp only [c48, ↓reduceIte] at k
        try simp only [c63, ↓reduceIte] at k
        refine ew_ls _ ?_ k
        exact ⟨rfl, rfl, rfl, rfl, trivial⟩
  · refine ew_iload_n (M := mX4_dotsOtherThan) dX4_dotsOtherThan_28 rfl ?_
    refine ew_aload_n (M := mX4_dotsOtherThan) dX4_dotsOtherThan_29 rfl (Or.inr (Or.inl ⟨_, rfl⟩)) ?_
    refine ew_callV (M := mX4_dotsOtherThan) dX4_dotsOtherThan_30 vX4_38 (by repeat (first | with_reducible assumption | refine ex_eq ?_ | refine ex_ne ?_ (by omega) | exact ex_lt (by with_reducible assumption) | rw [List.length_set] | assumption)) rfl (sp_dots hp) rfl (Nat.le_of_ble_eq_true rfl) ⟨Nat.le_refl _, Nat.le_refl _⟩ rfl (fun H30 r30 q30 => ?_)
    obtain ⟨rfl, rfl⟩ := q30
    refine ew_icmp_ge (M := mX4_dotsOtherThan) (tgt := 75) dX4_dotsOtherThan_33 rfl (fun _ => ?_) (fun h => absurd (nI_le (Nat.le_refl _) (by omega)) h)
    refine ew_iload_n (M := mX4_dotsOtherThan) dX4_dotsOtherThan_75 rfl ?_
    refine ew_iret (M := mX4_dotsOtherThan) dX4_dotsOtherThan_76 rfl (by first | rfl | decide) (Nat.le_refl _) (Nat.le_refl _) ?_
    exact ⟨rfl, rfl⟩
theorem sp_dotsOtherThan_n {d : Nat} {H : ex_H} {p q w h w2 h2 : Nat} {g m g2 m2 : Nat → Nat} (hp : pi_is H p w h g m) (hq : pi_is H q w2 h2 g2 m2) (hn : ¬ (w = w2 ∧ h = h2)) : ex_Met mX4_dotsOtherThan (d + 1) 0 0 H [.ref p, .ref q] (ex_r H (.int (-1))) := by
  obtain ⟨⟨hz, hgm⟩, gs, ms, ⟨hp1, hp2, hp3⟩, hct⟩ := id hp
  obtain ⟨⟨hzz, hgm2⟩, gs2, ms2, ⟨hq1, hq2, hq3⟩, hct2⟩ := id hq
  obtain ⟨hz1, hz2, hz3, hz4⟩ := id hz
  obtain ⟨hy1, hy2, hy3, hy4⟩ := id hzz
  refine ex_meth [(0, .ref p), (1, .ref q)] rfl rfl rfl (fun b => Nat.le_of_ble_eq_true rfl) ?_
  refine ew_aload_n (M := mX4_dotsOtherThan) dX4_dotsOtherThan_0 rfl (Or.inr (Or.inl ⟨_, rfl⟩)) ?_
  refine ew_get (M := mX4_dotsOtherThan) dX4_dotsOtherThan_1 fX4_9 (by repeat (first | with_reducible assumption | refine ex_eq ?_ | refine ex_ne ?_ (by omega) | exact ex_lt (by with_reducible assumption) | rw [List.length_set] | assumption)) (by rfl) ?_
  refine ew_aload_n (M := mX4_dotsOtherThan) dX4_dotsOtherThan_4 rfl (Or.inr (Or.inl ⟨_, rfl⟩)) ?_
  refine ew_get (M := mX4_dotsOtherThan) dX4_dotsOtherThan_5 fX4_9 (by repeat (first | with_reducible assumption | refine ex_eq ?_ | refine ex_ne ?_ (by omega) | exact ex_lt (by with_reducible assumption) | rw [List.length_set] | assumption)) (by rfl) ?_
  refine ew_icmp_ne (M := mX4_dotsOtherThan) (tgt := 22) dX4_dotsOtherThan_8 rfl (fun c8 => ?_) (fun c8 => ?_)
  · refine ew_iconst (M := mX4_dotsOtherThan) dX4_dotsOtherThan_22 (v := (-1)) (by decide) ?_
    refine ew_iret (M := mX4_dotsOtherThan) dX4_dotsOtherThan_23 rfl (by first | rfl | decide) (Nat.le_refl _) (Nat.le_refl _) ?_
    exact ⟨rfl, rfl⟩
  · rw [nI_eq (by omega) (by omega)] at c8
    refine ew_aload_n (M := mX4_dotsOtherThan) dX4_dotsOtherThan_11 rfl (Or.inr (Or.inl ⟨_, rfl⟩)) ?_
    refine ew_get (M := mX4_dotsOtherThan) dX4_dotsOtherThan_12 fX4_15 (by repeat (first | with_reducible assumption | refine ex_eq ?_ | refine ex_ne ?_ (by omega) | exact ex_lt (by with_reducible assumption) | rw [List.length_set] | assumption)) (by rfl) ?_
    refine ew_aload_n (M := mX4_dotsOtherThan) dX4_dotsOtherThan_15 rfl (Or.inr (Or.inl ⟨_, rfl⟩)) ?_
    refine ew_get (M := mX4_dotsOtherThan) dX4_dotsOtherThan_16 fX4_15 (by repeat (first | with_reducible assumption | refine ex_eq ?_ | refine ex_ne ?_ (by omega) | exact ex_lt (by with_reducible assumption) | rw [List.length_set] | assumption)) (by rfl) ?_
    refine ew_icmp_eq (M := mX4_dotsOtherThan) (tgt := 24) dX4_dotsOtherThan_19 rfl (fun c19 => ?_) (fun c19 => ?_)
    · rw [nI_eq (by omega) (by omega)] at c19
      exact absurd ⟨c8, c19⟩ hn
    · refine ew_iconst (M := mX4_dotsOtherThan) dX4_dotsOtherThan_22 (v := (-1)) (by decide) ?_
      refine ew_iret (M := mX4_dotsOtherThan) dX4_dotsOtherThan_23 rfl (by first | rfl | decide) (Nat.le_refl _) (Nat.le_refl _) ?_
      exact ⟨rfl, rfl⟩
end
section
def pm_tally (w : Nat) (g m : Nat → Nat) (a b a2 b2 : Nat) (g0 : Int32) : Nat := fl (fun j n => fl (fun i n => if m ((b + j) * w + (a + i)) = 0 then (if g0 < nI (g ((b + j) * w + (a + i))) then n else n + 1) else n) (a2 - a + 1) n) (b2 - b + 1) 0
theorem sp_dotsUpTo {d : Nat} {H : ex_H} {p w h : Nat} {g m : Nat → Nat} (hp : pi_is H p w h g m) {a b a2 b2 : Nat} {g0 : Int32} (ha : a ≤ a2) (ha2 : a2 < w) (hb : b ≤ b2) (hb2 : b2 < h) : ex_Met mX4_dotsUpTo (d + 2) 0 0 H [.ref p, .int (nI a), .int (nI b), .int (nI a2), .int (nI b2), .int g0] (ex_r H (.int (nI (pm_tally w g m a b a2 b2 g0)))) := by
  obtain ⟨hok, gs, ms, hp0, hct⟩ := id hp
  obtain ⟨hz, hgm⟩ := id hok
  obtain ⟨hp1, hp2, hp3⟩ := id hp0
  have h80 := pi_80 hz
  obtain ⟨hz1, hz2, hz3, hz4⟩ := id hz
  refine ex_meth [(0, .ref p), (1, .int (nI a)), (2, .int (nI b)), (3, .int (nI a2)), (4, .int (nI b2)), (5, .int g0)] rfl rfl rfl (fun b => Nat.le_of_ble_eq_true rfl) ?_
  refine ew_iconst (M := mX4_dotsUpTo) dX4_dotsUpTo_0 (v := nI 0) (by decide) ?_
  refine ew_istore (M := mX4_dotsUpTo) dX4_dotsUpTo_1 (by decide) rfl ?_
  refine ew_iload_n (M := mX4_dotsUpTo) dX4_dotsUpTo_3 rfl ?_
  refine ew_istore (M := mX4_dotsUpTo) dX4_dotsUpTo_4 (by decide) rfl ?_
  refine ew_ls [(0, .ref p), (1, .int (nI a)), (2, .int (nI b)), (3, .int (nI a2)), (4, .int (nI b2)), (5, .int g0), (6, .int (nI 0)), (7, .int (nI (b + 0)))] ⟨rfl, rfl, rfl, rfl, rfl, rfl, rfl, rfl, trivial⟩ ?_
  refine fl_down (F := fun j n => fl (fun i n => if m ((b + j) * w + (a + i)) = 0 then (if g0 < nI (g ((b + j) * w + (a + i))) then n else n + 1) else n) (a2 - a + 1) n) (P := fun j n => ex_W mX4_dotsUpTo (d + 2) 0 0 _ H 6 [(0, .ref p), (1, .int (nI a)), (2, .int (nI b)), (3, .int (nI a2)), (4, .int (nI b2)), (5, .int g0), (6, .int (nI n)), (7, .int (nI (b + j)))] [] 0 0) (b2 - b + 1) 0 (fun j n hj _ k => ?_) ?_
  · refine ew_iload (M := mX4_dotsUpTo) dX4_dotsUpTo_6 rfl ?_
    refine ew_iload (M := mX4_dotsUpTo) dX4_dotsUpTo_8 rfl ?_
    refine ew_icmp_gt (M := mX4_dotsUpTo) (tgt := 61) dX4_dotsUpTo_10 rfl (fun h => absurd h (nI_nlt (by omega) (by omega))) (fun _ => ?_)
    refine ew_iload_n (M := mX4_dotsUpTo) dX4_dotsUpTo_13 rfl ?_
    refine ew_istore (M := mX4_dotsUpTo) dX4_dotsUpTo_14 (by decide) rfl ?_
    refine ew_ls [(0, .ref p), (1, .int (nI a)), (2, .int (nI b)), (3, .int (nI a2)), (4, .int (nI b2)), (5, .int g0), (6, .int (nI n)), (7, .int (nI (b + j))), (8, .int (nI (a + 0)))] ⟨rfl, rfl, rfl, rfl, rfl, rfl, rfl, rfl, rfl, trivial⟩ ?_
    refine fl_down (F := (fun i n => if m ((b + j) * w + (a + i)) = 0 then (if g0 < nI (g ((b + j) * w + (a + i))) then n else n + 1) else n)) (P := fun i n => ex_W mX4_dotsUpTo (d + 2) 0 0 _ H 16 [(0, .ref p), (1, .int (nI a)), (2, .int (nI b)), (3, .int (nI a2)), (4, .int (nI b2)), (5, .int g0), (6, .int (nI n)), (7, .int (nI (b + j))), (8, .int (nI (a + i)))] [] 0 0) (a2 - a + 1) n (fun i n hi _ k => ?_) ?_
    · refine ew_iload (M := mX4_dotsUpTo) dX4_dotsUpTo_16 rfl ?_
      refine ew_iload_n (M := mX4_dotsUpTo) dX4_dotsUpTo_18 rfl ?_
      refine ew_icmp_gt (M := mX4_dotsUpTo) (tgt := 55) dX4_dotsUpTo_19 rfl (fun h => absurd h (nI_nlt (by omega) (by omega))) (fun _ => ?_)
      refine ew_aload_n (M := mX4_dotsUpTo) dX4_dotsUpTo_22 rfl (Or.inr (Or.inl ⟨_, rfl⟩)) ?_
      refine ew_iload (M := mX4_dotsUpTo) dX4_dotsUpTo_23 rfl ?_
      refine ew_iload (M := mX4_dotsUpTo) dX4_dotsUpTo_25 rfl ?_
      refine ew_callV (M := mX4_dotsUpTo) dX4_dotsUpTo_27 vX4_50 (by repeat (first | with_reducible assumption | refine ex_eq ?_ | refine ex_ne ?_ (by omega) | exact ex_lt (by with_reducible assumption) | rw [List.length_set] | assumption)) rfl (sp_isMasked hp (by omega) (by omega)) rfl (Nat.le_of_ble_eq_true rfl) ⟨Nat.le_refl _, Nat.le_refl _⟩ rfl (fun H27 r27 q27 => ?_)
      obtain ⟨rfl, rfl⟩ := q27
      refine ew_if_ne (M := mX4_dotsUpTo) (tgt := 49) dX4_dotsUpTo_30 rfl (fun c30 => ?_) (fun c30 => ?_)
      · rw [nI_z (by have := (hgm ((b + j) * w + (a + i)) (pi_lt (by omega) (by omega))).2; omega)] at c30
        refine ew_iinc (M := mX4_dotsUpTo) dX4_dotsUpTo_49 rfl (ex_inc (a + i)) (by decide) rfl ?_
        refine ew_goto (M := mX4_dotsUpTo) (tgt := 16) dX4_dotsUpTo_52 rfl ?_
        simp only [c30, ↓reduceIte] at k
        try simp only [c43, ↓reduceIte] at k
        refine ew_ls _ ?_ k
        exact ⟨rfl, rfl, rfl, rfl, rfl, rfl, rfl, rfl, rfl, trivial⟩
      · rw [nI_z (by have := (hgm ((b + j) * w + (a + i)) (pi_lt (by omega) (by omega))).2; omega)] at c30
        refine ew_aload_n (M := mX4_dotsUpTo) dX4_dotsUpTo_33 rfl (Or.inr (Or.inl ⟨_, rfl⟩)) ?_
        refine ew_iload (M := mX4_dotsUpTo) dX4_dotsUpTo_34 rfl ?_
        refine ew_iload (M := mX4_dotsUpTo) dX4_dotsUpTo_36 rfl ?_
        refine ew_callV (M := mX4_dotsUpTo) dX4_dotsUpTo_38 vX4_42 (by repeat (first | with_reducible assumption | refine ex_eq ?_ | refine ex_ne ?_ (by omega) | exact ex_lt (by with_reducible assumption) | rw [List.length_set] | assumption)) rfl (sp_greyOf hp (by omega) (by omega)) rfl (Nat.le_of_ble_eq_true rfl) ⟨Nat.le_refl _, Nat.le_refl _⟩ rfl (fun H38 r38 q38 => ?_)
        obtain ⟨rfl, rfl⟩ := q38
        refine ew_iload (M := mX4_dotsUpTo) dX4_dotsUpTo_41 rfl ?_
        refine ew_icmp_gt (M := mX4_dotsUpTo) (tgt := 49) dX4_dotsUpTo_43 rfl (fun c43 => ?_) (fun c43 => ?_)
        · refine ew_iinc (M := mX4_dotsUpTo) dX4_dotsUpTo_49 rfl (ex_inc (a + i)) (by decide) rfl ?_
          refine ew_goto (M := mX4_dotsUpTo) (tgt := 16) dX4_dotsUpTo_52 rfl ?_
          simp only [c30, ↓reduceIte] at k
          try simp only [c43, ↓reduceIte] at k
          refine ew_ls _ ?_ k
          exact ⟨rfl, rfl, rfl, rfl, rfl, rfl, rfl, rfl, rfl, trivial⟩
        · refine ew_iinc (M := mX4_dotsUpTo) dX4_dotsUpTo_46 rfl (ex_inc n) (by decide) rfl ?_
          refine ew_iinc (M := mX4_dotsUpTo) dX4_dotsUpTo_49 rfl (ex_inc (a + i)) (by decide) rfl ?_
          refine ew_goto (M := mX4_dotsUpTo) (tgt := 16) dX4_dotsUpTo_52 rfl ?_
          simp only [c30, ↓reduceIte] at k
          try simp only [c43, ↓reduceIte] at k
          refine ew_ls _ ?_ k
          exact ⟨rfl, rfl, rfl, rfl, rfl, rfl, rfl, rfl, rfl, trivial⟩
    · refine ew_iload (M := mX4_dotsUpTo) dX4_dotsUpTo_16 rfl ?_
      refine ew_iload_n (M := mX4_dotsUpTo) dX4_dotsUpTo_18 rfl ?_
      refine ew_icmp_gt (M := mX4_dotsUpTo) (tgt := 55) dX4_dotsUpTo_19 rfl (fun _ => ?_) (fun h => absurd (nI_lt (by omega) (by omega)) h)
      refine ew_iinc (M := mX4_dotsUpTo) dX4_dotsUpTo_55 rfl (ex_inc (b + j)) (by decide) rfl ?_
      refine ew_goto (M := mX4_dotsUpTo) (tgt := 6) dX4_dotsUpTo_58 rfl ?_
      refine ew_ls _ ?_ k
      exact ⟨rfl, rfl, rfl, rfl, rfl, rfl, rfl, rfl, trivial⟩
  · refine ew_iload (M := mX4_dotsUpTo) dX4_dotsUpTo_6 rfl ?_
    refine ew_iload (M := mX4_dotsUpTo) dX4_dotsUpTo_8 rfl ?_
    refine ew_icmp_gt (M := mX4_dotsUpTo) (tgt := 61) dX4_dotsUpTo_10 rfl (fun _ => ?_) (fun h => absurd (nI_lt (by omega) (by omega)) h)
    refine ew_iload (M := mX4_dotsUpTo) dX4_dotsUpTo_61 rfl ?_
    refine ew_iret (M := mX4_dotsUpTo) dX4_dotsUpTo_63 rfl (by first | rfl | decide) (Nat.le_refl _) (Nat.le_refl _) ?_
    exact ⟨rfl, rfl⟩
/-- where a dot of the turned picture comes from -/
def tu_x (how w i j : Nat) : Nat := if how = 2 then j else if how = 0 then w - 1 - i else i
def tu_y (how h i j : Nat) : Nat := if how = 2 then i else if how = 1 then h - 1 - j else j
def tu_g (how w h w0 : Nat) (g : Nat → Nat) (k : Nat) : Nat := if how = 3 then 255 - g (tu_y how h (k % w) (k / w) * w0 + tu_x how w (k % w) (k / w)) else g (tu_y how h (k % w) (k / w) * w0 + tu_x how w (k % w) (k / w))
def tu_m (how w h w0 : Nat) (m : Nat → Nat) (k : Nat) : Nat := m (tu_y how h (k % w) (k / w) * w0 + tu_x how w (k % w) (k / w))
theorem tu_at {w i j : Nat} (hi : i < w) : (j * w + i) % w = i ∧ (j * w + i) / w = j := by
  have hw : 0 < w := by omega
  refine ⟨by rw [Nat.add_comm, Nat.add_mul_mod_self_right, Nat.mod_eq_of_lt hi], ?_⟩
  rw [Nat.add_comm, Nat.add_mul_div_right _ _ hw, Nat.div_eq_of_lt hi, Nat.zero_add]
theorem tu_split {w h k : Nat} (hk : k < w * h) : ∃ i j, i < w ∧ j < h ∧ k = j * w + i := by
  have hw : 0 < w := by
    rcases Nat.eq_zero_or_pos w with e | e
    · subst e; simp at hk
    · exact e
  exact ⟨k % w, k / w, Nat.mod_lt _ hw, Nat.div_lt_of_lt_mul hk, by rw [Nat.mul_comm]; exact (Nat.div_add_mod k w).symm⟩
theorem sp_becomeTurned {d : Nat} {H : ex_H} {p q w h w0 h0 wa ha how : Nat} {g m : Nat → Nat} {gs0 ms0 : Nat → Int32} (hp : pi_at H p wa ha gs0 ms0) (hq : pi_is H q w0 h0 g m) (hpq : p + 2 < q ∨ q + 2 < p) (hz : pi_sz w h) (hh : how < 4) (hw : w = if how = 2 then h0 else w0) (hhh : h = if how = 2 then w0 else h0) : ex_Met mX4_becomeTurned (d + 2) 0 0 H [.ref p, .ref q, .int (nI how)] (fun H' r => r = none ∧ ex_ch H H' [p, p + 1, p + 2] ∧ pi_is H' p w h (tu_g how w h w0 g) (tu_m how w h w0 m)) := by
  obtain ⟨hok, gs, ms, hq0, hct⟩ := id hq
  obtain ⟨hqz, hgm⟩ := id hok
  obtain ⟨hq1, hq2, hq3⟩ := id hq0
  obtain ⟨hpp1, hpp2, hpp3⟩ := id hp
  have h80 := pi_80 hz
  obtain ⟨hz1, hz2, hz3, hz4⟩ := id hz
  obtain ⟨sw, hsw, hsw2⟩ : ∃ sw, (sw = if how = 2 then 1 else 0) ∧ sw < 2 := ⟨_, rfl, by split <;> omega⟩
  refine ex_meth [(0, .ref p), (1, .ref q), (2, .int (nI how))] rfl rfl rfl (fun b => Nat.le_of_ble_eq_true rfl) ?_
  have key : ∀ H2 : ex_H, ex_ch H H2 [p, p + 1, p + 2] → ∀ f e : Nat → Int32, pi_at H2 p w h f e → (∀ k, k < 0 * w → f k = nI (tu_g how w h w0 g k) ∧ e k = nI (tu_m how w h w0 m k)) → ex_W mX4_becomeTurned (d + 2) 0 0 (fun H' r => r = none ∧ ex_ch H H' [p, p + 1, p + 2] ∧ pi_is H' p w h (tu_g how w h w0 g) (tu_m how w h w0 m)) H2 48 [(0, .ref p), (1, .ref q), (2, .int (nI how)), (3, .int (nI sw)), (4, .int (nI 0))] [] (0 + 0) (0 + 0) := by
    refine nat_down (P := fun j => ∀ H2 : ex_H, ex_ch H H2 [p, p + 1, p + 2] → ∀ f e : Nat → Int32, pi_at H2 p w h f e → (∀ k, k < j * w → f k = nI (tu_g how w h w0 g k) ∧ e k = nI (tu_m how w h w0 m k)) → ex_W mX4_becomeTurned (d + 2) 0 0 (fun H' r => r = none ∧ ex_ch H H' [p, p + 1, p + 2] ∧ pi_is H' p w h (tu_g how w h w0 g) (tu_m how w h w0 m)) H2 48 [(0, .ref p), (1, .ref q), (2, .int (nI how)), (3, .int (nI sw)), (4, .int (nI j))] [] (0 + 0) (0 + 0)) h (fun j hj k => ?_) ?_
    · intro H2 hc2 f e hp2 hfe
      obtain ⟨hp21, hp22, hp23⟩ := id hp2
      refine ew_iload (M := mX4_becomeTurned) dX4_becomeTurned_48 rfl ?_
      refine ew_aload_n (M := mX4_becomeTurned) dX4_becomeTurned_50 rfl (Or.inr (Or.inl ⟨_, rfl⟩)) ?_
      refine ew_get (M := mX4_becomeTurned) dX4_becomeTurned_51 fX4_15 (by repeat (first | with_reducible assumption | refine ex_eq ?_ | refine ex_ne ?_ (by omega) | exact ex_lt (by with_reducible assumption) | rw [List.length_set] | assumption)) (by rfl) ?_
      refine ew_icmp_ge (M := mX4_becomeTurned) (tgt := 190) dX4_becomeTurned_54 rfl (fun h => absurd h (nI_ge hj (by omega))) (fun _ => ?_)
      refine ew_iconst (M := mX4_becomeTurned) dX4_becomeTurned_57 (v := nI 0) (by decide) ?_
      refine ew_istore (M := mX4_becomeTurned) dX4_becomeTurned_58 (by decide) rfl ?_
      refine ew_ls [(0, .ref p), (1, .ref q), (2, .int (nI how)), (3, .int (nI sw)), (4, .int (nI j)), (5, .int (nI 0))] ⟨rfl, rfl, rfl, rfl, rfl, rfl, trivial⟩ ?_
      refine nat_down (P := fun i => ∀ H2 : ex_H, ex_ch H H2 [p, p + 1, p + 2] → ∀ f e : Nat → Int32, pi_at H2 p w h f e → (∀ k, k < j * w + i → f k = nI (tu_g how w h w0 g k) ∧ e k = nI (tu_m how w h w0 m k)) → ex_W mX4_becomeTurned (d + 2) 0 0 (fun H' r => r = none ∧ ex_ch H H' [p, p + 1, p + 2] ∧ pi_is H' p w h (tu_g how w h w0 g) (tu_m how w h w0 m)) H2 60 [(0, .ref p), (1, .ref q), (2, .int (nI how)), (3, .int (nI sw)), (4, .int (nI j)), (5, .int (nI i))] [] (0 + 0) (0 + 0)) w (fun i hi k => ?_) ?_ H2 hc2 f e hp2 hfe
      · intro H2 hc2 f e hp2 hfe
        obtain ⟨hp21, hp22, hp23⟩ := id hp2
        have hq2 := hq.ch hc2 (by simp; omega) (by simp; omega) (by simp; omega)
        obtain ⟨-, gq, mq, ⟨hq21, hq22, hq23⟩, -⟩ := id hq2
        have hx : tu_x how w i j < w0 := by
          unfold tu_x; split at hw <;> split at hhh <;> (try split) <;> (try split) <;> omega
        have hy : tu_y how h i j < h0 := by
          unfold tu_y; split at hw <;> split at hhh <;> (try split) <;> (try split) <;> omega
        obtain ⟨ta, tb⟩ := tu_at (j := j) hi
        have hkk := pi_lt hx hy
        have hgm1 := hgm _ hkk
        rcases (show how = 0 ∨ how = 1 ∨ how = 2 ∨ how = 3 by omega) with rfl | rfl | rfl | rfl
        · obtain rfl : sw = 0 := by rw [hsw]; rfl
          have ex : tu_x 0 w i j = w - 1 - i := rfl
          have ey : tu_y 0 h i j = j := rfl
          rw [ex] at hx hkk hgm1
          rw [ey] at hy hkk hgm1
          refine ew_iload (M := mX4_becomeTurned) dX4_becomeTurned_60 rfl ?_
          refine ew_aload_n (M := mX4_becomeTurned) dX4_becomeTurned_62 rfl (Or.inr (Or.inl ⟨_, rfl⟩)) ?_
          refine ew_get (M := mX4_becomeTurned) dX4_becomeTurned_63 fX4_9 (by repeat (first | with_reducible assumption | refine ex_eq ?_ | refine ex_ne ?_ (by omega) | exact ex_lt (by with_reducible assumption) | rw [List.length_set] | assumption)) (by rfl) ?_
          refine ew_icmp_ge (M := mX4_becomeTurned) (tgt := 184) dX4_becomeTurned_66 rfl (fun h => absurd h (nI_ge hi (by omega))) (fun _ => ?_)
          refine ew_iload_n (M := mX4_becomeTurned) dX4_becomeTurned_69 rfl ?_
          refine ew_if_eq (M := mX4_becomeTurned) (tgt := 78) dX4_becomeTurned_70 rfl (fun _ => ?_) (fun h => absurd (by decide) h)
          refine ew_iload_n (M := mX4_becomeTurned) dX4_becomeTurned_78 rfl ?_
          refine ew_if_ne (M := mX4_becomeTurned) (tgt := 94) dX4_becomeTurned_79 rfl (fun h => absurd rfl h) (fun _ => ?_)
          refine ew_aload_n (M := mX4_becomeTurned) dX4_becomeTurned_82 rfl (Or.inr (Or.inl ⟨_, rfl⟩)) ?_
          refine ew_get (M := mX4_becomeTurned) dX4_becomeTurned_83 fX4_9 (by repeat (first | with_reducible assumption | refine ex_eq ?_ | refine ex_ne ?_ (by omega) | exact ex_lt (by with_reducible assumption) | rw [List.length_set] | assumption)) (by rfl) ?_
          refine ew_iconst (M := mX4_becomeTurned) dX4_becomeTurned_86 (v := nI 1) (by decide) ?_
          refine ew_isub (M := mX4_becomeTurned) dX4_becomeTurned_87 ?_
          refine ew_iload (M := mX4_becomeTurned) dX4_becomeTurned_88 rfl ?_
          refine ew_isub (M := mX4_becomeTurned) dX4_becomeTurned_90 ?_
          rw [pk_sub hz1, pk_sub (show i ≤ w - 1 by omega)]
          refine ew_goto (M := mX4_becomeTurned) (tgt := 96) dX4_becomeTurned_91 rfl ?_
          refine ew_istore (M := mX4_becomeTurned) dX4_becomeTurned_96 (by decide) rfl ?_
          refine ew_iload_n (M := mX4_becomeTurned) dX4_becomeTurned_98 rfl ?_
          refine ew_if_eq (M := mX4_becomeTurned) (tgt := 107) dX4_becomeTurned_99 rfl (fun _ => ?_) (fun h => absurd (by decide) h)
          refine ew_iload_n (M := mX4_becomeTurned) dX4_becomeTurned_107 rfl ?_
          refine ew_iconst (M := mX4_becomeTurned) dX4_becomeTurned_108 (v := nI 1) (by decide) ?_
          refine ew_icmp_ne (M := mX4_becomeTurned) (tgt := 124) dX4_becomeTurned_109 rfl (fun _ => ?_) (fun h => absurd h (by decide))
          refine ew_iload (M := mX4_becomeTurned) dX4_becomeTurned_124 rfl ?_
          refine ew_istore (M := mX4_becomeTurned) dX4_becomeTurned_126 (by decide) rfl ?_
          refine ew_aload_n (M := mX4_becomeTurned) dX4_becomeTurned_128 rfl (Or.inr (Or.inl ⟨_, rfl⟩)) ?_
          refine ew_iload (M := mX4_becomeTurned) dX4_becomeTurned_129 rfl ?_
          refine ew_iload (M := mX4_becomeTurned) dX4_becomeTurned_131 rfl ?_
          refine ew_callV (M := mX4_becomeTurned) dX4_becomeTurned_133 vX4_42 (by repeat (first | with_reducible assumption | refine ex_eq ?_ | refine ex_ne ?_ (by omega) | exact ex_lt (by with_reducible assumption) | rw [List.length_set] | assumption)) rfl (sp_greyOf hq2 hx hy) rfl (Nat.le_of_ble_eq_true rfl) ⟨Nat.le_refl _, Nat.le_refl _⟩ rfl (fun H133 r133 q133 => ?_)
          obtain ⟨rfl, rfl⟩ := q133
          refine ew_istore (M := mX4_becomeTurned) dX4_becomeTurned_136 (by decide) rfl ?_
          refine ew_aload_n (M := mX4_becomeTurned) dX4_becomeTurned_138 rfl (Or.inr (Or.inl ⟨_, rfl⟩)) ?_
          refine ew_iload (M := mX4_becomeTurned) dX4_becomeTurned_139 rfl ?_
          refine ew_iload (M := mX4_becomeTurned) dX4_becomeTurned_141 rfl ?_
          refine ew_iload_n (M := mX4_becomeTurned) dX4_becomeTurned_143 rfl ?_
          refine ew_iconst (M := mX4_becomeTurned) dX4_becomeTurned_144 (v := nI 3) (by decide) ?_
          refine ew_icmp_ne (M := mX4_becomeTurned) (tgt := 157) dX4_becomeTurned_145 rfl (fun _ => ?_) (fun h => absurd h (by decide))
          refine ew_iload (M := mX4_becomeTurned) dX4_becomeTurned_157 rfl ?_
          refine ew_callV (M := mX4_becomeTurned) dX4_becomeTurned_159 vX4_46 (by repeat (first | with_reducible assumption | refine ex_eq ?_ | refine ex_ne ?_ (by omega) | exact ex_lt (by with_reducible assumption) | rw [List.length_set] | assumption)) rfl (sp_setGrey0 hp2 hz hi hj) rfl (Nat.le_of_ble_eq_true rfl) ⟨Nat.le_refl _, Nat.le_refl _⟩ rfl (fun H159 r159 q159 => ?_)
          obtain ⟨rfl, rfl⟩ := q159
          refine ew_aload_n (M := mX4_becomeTurned) dX4_becomeTurned_162 rfl (Or.inr (Or.inl ⟨_, rfl⟩)) ?_
          refine ew_iload (M := mX4_becomeTurned) dX4_becomeTurned_163 rfl ?_
          refine ew_iload (M := mX4_becomeTurned) dX4_becomeTurned_165 rfl ?_
          refine ew_aload_n (M := mX4_becomeTurned) dX4_becomeTurned_167 rfl (Or.inr (Or.inl ⟨_, rfl⟩)) ?_
          refine ew_iload (M := mX4_becomeTurned) dX4_becomeTurned_168 rfl ?_
          refine ew_iload (M := mX4_becomeTurned) dX4_becomeTurned_170 rfl ?_
          refine ew_callV (M := mX4_becomeTurned) dX4_becomeTurned_172 vX4_50 (by repeat (first | with_reducible assumption | refine ex_eq ?_ | refine ex_ne ?_ (by omega) | exact ex_lt (by with_reducible assumption) | rw [List.length_set] | assumption)) rfl (sp_isMasked (hq2.ch (L := [p + 1]) (ex_ch.rf.set (by simp)) (by simp; omega) (by simp; omega) (by simp; omega)) hx hy) rfl (Nat.le_of_ble_eq_true rfl) ⟨Nat.le_refl _, Nat.le_refl _⟩ rfl (fun H172 r172 q172 => ?_)
          obtain ⟨rfl, rfl⟩ := q172
          refine ew_callV (M := mX4_becomeTurned) dX4_becomeTurned_175 vX4_53 (by repeat (first | with_reducible assumption | refine ex_eq ?_ | refine ex_ne ?_ (by omega) | exact ex_lt (by with_reducible assumption) | rw [List.length_set] | assumption)) rfl (sp_setMasked0 (p := p) (w := w) (h := h) (gs := upd f (j * w + i) _) (ms := e) ⟨(by repeat (first | with_reducible assumption | refine ex_eq ?_ | refine ex_ne ?_ (by omega) | exact ex_lt (by with_reducible assumption) | rw [List.length_set] | assumption)), (by repeat (first | with_reducible assumption | refine ex_eq ?_ | refine ex_ne ?_ (by omega) | exact ex_lt (by with_reducible assumption) | rw [List.length_set] | assumption)), (by repeat (first | with_reducible assumption | refine ex_eq ?_ | refine ex_ne ?_ (by omega) | exact ex_lt (by with_reducible assumption) | rw [List.length_set] | assumption))⟩ hz hi hj hgm1.2) rfl (Nat.le_of_ble_eq_true rfl) ⟨Nat.le_refl _, Nat.le_refl _⟩ rfl (fun H175 r175 q175 => ?_)
          obtain ⟨rfl, rfl⟩ := q175
          refine ew_iinc (M := mX4_becomeTurned) dX4_becomeTurned_178 rfl (ex_inc i) (by decide) rfl ?_
          refine ew_goto (M := mX4_becomeTurned) (tgt := 60) dX4_becomeTurned_181 rfl ?_
          refine ew_ls _ ?_ (k _ ((hc2.set (by simp)).set (by simp)) (upd f (j * w + i) (nI (tu_g 0 w h w0 g (j * w + i)))) (upd e (j * w + i) (nI (tu_m 0 w h w0 m (j * w + i)))) ?_ ?_)
          · exact ⟨rfl, rfl, rfl, rfl, rfl, rfl, trivial⟩
          · unfold tu_g tu_m
            rw [ta, tb, ex, ey]
            exact ⟨(by repeat (first | with_reducible assumption | refine ex_eq ?_ | refine ex_ne ?_ (by omega) | exact ex_lt (by with_reducible assumption) | rw [List.length_set] | assumption)), (by repeat (first | with_reducible assumption | refine ex_eq ?_ | refine ex_ne ?_ (by omega) | exact ex_lt (by with_reducible assumption) | rw [List.length_set] | assumption)), (by repeat (first | with_reducible assumption | refine ex_eq ?_ | refine ex_ne ?_ (by omega) | exact ex_lt (by with_reducible assumption) | rw [List.length_set] | assumption))⟩
          · intro k' hk'
            by_cases e' : k' = j * w + i
            · subst e'; simp only [upd, if_true]; exact ⟨trivial, trivial⟩
            · simp only [upd, if_neg e']; exact hfe k' (by omega)
        · obtain rfl : sw = 0 := by rw [hsw]; rfl
          have ex : tu_x 1 w i j = i := rfl
          have ey : tu_y 1 h i j = h - 1 - j := rfl
          rw [ex] at hx hkk hgm1
          rw [ey] at hy hkk hgm1
          refine ew_iload (M := mX4_becomeTurned) dX4_becomeTurned_60 rfl ?_
          refine ew_aload_n (M := mX4_becomeTurned) dX4_becomeTurned_62 rfl (Or.inr (Or.inl ⟨_, rfl⟩)) ?_
          refine ew_get (M := mX4_becomeTurned) dX4_becomeTurned_63 fX4_9 (by repeat (first | with_reducible assumption | refine ex_eq ?_ | refine ex_ne ?_ (by omega) | exact ex_lt (by with_reducible assumption) | rw [List.length_set] | assumption)) (by rfl) ?_
          refine ew_icmp_ge (M := mX4_becomeTurned) (tgt := 184) dX4_becomeTurned_66 rfl (fun h => absurd h (nI_ge hi (by omega))) (fun _ => ?_)
          refine ew_iload_n (M := mX4_becomeTurned) dX4_becomeTurned_69 rfl ?_
          refine ew_if_eq (M := mX4_becomeTurned) (tgt := 78) dX4_becomeTurned_70 rfl (fun _ => ?_) (fun h => absurd (by decide) h)
          refine ew_iload_n (M := mX4_becomeTurned) dX4_becomeTurned_78 rfl ?_
          refine ew_if_ne (M := mX4_becomeTurned) (tgt := 94) dX4_becomeTurned_79 rfl (fun _ => ?_) (fun h => absurd h (by decide))
          refine ew_iload (M := mX4_becomeTurned) dX4_becomeTurned_94 rfl ?_
          refine ew_istore (M := mX4_becomeTurned) dX4_becomeTurned_96 (by decide) rfl ?_
          refine ew_iload_n (M := mX4_becomeTurned) dX4_becomeTurned_98 rfl ?_
          refine ew_if_eq (M := mX4_becomeTurned) (tgt := 107) dX4_becomeTurned_99 rfl (fun _ => ?_) (fun h => absurd (by decide) h)
          refine ew_iload_n (M := mX4_becomeTurned) dX4_becomeTurned_107 rfl ?_
          refine ew_iconst (M := mX4_becomeTurned) dX4_becomeTurned_108 (v := nI 1) (by decide) ?_
          refine ew_icmp_ne (M := mX4_becomeTurned) (tgt := 124) dX4_becomeTurned_109 rfl (fun h => absurd rfl h) (fun _ => ?_)
          refine ew_aload_n (M := mX4_becomeTurned) dX4_becomeTurned_112 rfl (Or.inr (Or.inl ⟨_, rfl⟩)) ?_
          refine ew_get (M := mX4_becomeTurned) dX4_becomeTurned_113 fX4_15 (by repeat (first | with_reducible assumption | refine ex_eq ?_ | refine ex_ne ?_ (by omega) | exact ex_lt (by with_reducible assumption) | rw [List.length_set] | assumption)) (by rfl) ?_
          refine ew_iconst (M := mX4_becomeTurned) dX4_becomeTurned_116 (v := nI 1) (by decide) ?_
          refine ew_isub (M := mX4_becomeTurned) dX4_becomeTurned_117 ?_
          refine ew_iload (M := mX4_becomeTurned) dX4_becomeTurned_118 rfl ?_
          refine ew_isub (M := mX4_becomeTurned) dX4_becomeTurned_120 ?_
          rw [pk_sub hz3, pk_sub (show j ≤ h - 1 by omega)]
          refine ew_goto (M := mX4_becomeTurned) (tgt := 126) dX4_becomeTurned_121 rfl ?_
          refine ew_istore (M := mX4_becomeTurned) dX4_becomeTurned_126 (by decide) rfl ?_
          refine ew_aload_n (M := mX4_becomeTurned) dX4_becomeTurned_128 rfl (Or.inr (Or.inl ⟨_, rfl⟩)) ?_
          refine ew_iload (M := mX4_becomeTurned) dX4_becomeTurned_129 rfl ?_
          refine ew_iload (M := mX4_becomeTurned) dX4_becomeTurned_131 rfl ?_
          refine ew_callV (M := mX4_becomeTurned) dX4_becomeTurned_133 vX4_42 (by repeat (first | with_reducible assumption | refine ex_eq ?_ | refine ex_ne ?_ (by omega) | exact ex_lt (by with_reducible assumption) | rw [List.length_set] | assumption)) rfl (sp_greyOf hq2 hx hy) rfl (Nat.le_of_ble_eq_true rfl) ⟨Nat.le_refl _, Nat.le_refl _⟩ rfl (fun H133 r133 q133 => ?_)
          obtain ⟨rfl, rfl⟩ := q133
          refine ew_istore (M := mX4_becomeTurned) dX4_becomeTurned_136 (by decide) rfl ?_
          refine ew_aload_n (M := mX4_becomeTurned) dX4_becomeTurned_138 rfl (Or.inr (Or.inl ⟨_, rfl⟩)) ?_
          refine ew_iload (M := mX4_becomeTurned) dX4_becomeTurned_139 rfl ?_
          refine ew_iload (M := mX4_becomeTurned) dX4_becomeTurned_141 rfl ?_
          refine ew_iload_n (M := mX4_becomeTurned) dX4_becomeTurned_143 rfl ?_
          refine ew_iconst (M := mX4_becomeTurned) dX4_becomeTurned_144 (v := nI 3) (by decide) ?_
          refine ew_icmp_ne (M := mX4_becomeTurned) (tgt := 157) dX4_becomeTurned_145 rfl (fun _ => ?_) (fun h => absurd h (by decide))
          refine ew_iload (M := mX4_becomeTurned) dX4_becomeTurned_157 rfl ?_
          refine ew_callV (M := mX4_becomeTurned) dX4_becomeTurned_159 vX4_46 (by repeat (first | with_reducible assumption | refine ex_eq ?_ | refine ex_ne ?_ (by omega) | exact ex_lt (by with_reducible assumption) | rw [List.length_set] | assumption)) rfl (sp_setGrey0 hp2 hz hi hj) rfl (Nat.le_of_ble_eq_true rfl) ⟨Nat.le_refl _, Nat.le_refl _⟩ rfl (fun H159 r159 q159 => ?_)
          obtain ⟨rfl, rfl⟩ := q159
          refine ew_aload_n (M := mX4_becomeTurned) dX4_becomeTurned_162 rfl (Or.inr (Or.inl ⟨_, rfl⟩)) ?_
          refine ew_iload (M := mX4_becomeTurned) dX4_becomeTurned_163 rfl ?_
          refine ew_iload (M := mX4_becomeTurned) dX4_becomeTurned_165 rfl ?_
          refine ew_aload_n (M := mX4_becomeTurned) dX4_becomeTurned_167 rfl (Or.inr (Or.inl ⟨_, rfl⟩)) ?_
          refine ew_iload (M := mX4_becomeTurned) dX4_becomeTurned_168 rfl ?_
          refine ew_iload (M := mX4_becomeTurned) dX4_becomeTurned_170 rfl ?_
          refine ew_callV (M := mX4_becomeTurned) dX4_becomeTurned_172 vX4_50 (by repeat (first | with_reducible assumption | refine ex_eq ?_ | refine ex_ne ?_ (by omega) | exact ex_lt (by with_reducible assumption) | rw [List.length_set] | assumption)) rfl (sp_isMasked (hq2.ch (L := [p + 1]) (ex_ch.rf.set (by simp)) (by simp; omega) (by simp; omega) (by simp; omega)) hx hy) rfl (Nat.le_of_ble_eq_true rfl) ⟨Nat.le_refl _, Nat.le_refl _⟩ rfl (fun H172 r172 q172 => ?_)
          obtain ⟨rfl, rfl⟩ := q172
          refine ew_callV (M := mX4_becomeTurned) dX4_becomeTurned_175 vX4_53 (by repeat (first | with_reducible assumption | refine ex_eq ?_ | refine ex_ne ?_ (by omega) | exact ex_lt (by with_reducible assumption) | rw [List.length_set] | assumption)) rfl (sp_setMasked0 (p := p) (w := w) (h := h) (gs := upd f (j * w + i) _) (ms := e) ⟨(by repeat (first | with_reducible assumption | refine ex_eq ?_ | refine ex_ne ?_ (by omega) | exact ex_lt (by with_reducible assumption) | rw [List.length_set] | assumption)), (by repeat (first | with_reducible assumption | refine ex_eq ?_ | refine ex_ne ?_ (by omega) | exact ex_lt (by with_reducible assumption) | rw [List.length_set] | assumption)), (by repeat (first | with_reducible assumption | refine ex_eq ?_ | refine ex_ne ?_ (by omega) | exact ex_lt (by with_reducible assumption) | rw [List.length_set] | assumption))⟩ hz hi hj hgm1.2) rfl (Nat.le_of_ble_eq_true rfl) ⟨Nat.le_refl _, Nat.le_refl _⟩ rfl (fun H175 r175 q175 => ?_)
          obtain ⟨rfl, rfl⟩ := q175
          refine ew_iinc (M := mX4_becomeTurned) dX4_becomeTurned_178 rfl (ex_inc i) (by decide) rfl ?_
          refine ew_goto (M := mX4_becomeTurned) (tgt := 60) dX4_becomeTurned_181 rfl ?_
          refine ew_ls _ ?_ (k _ ((hc2.set (by simp)).set (by simp)) (upd f (j * w + i) (nI (tu_g 1 w h w0 g (j * w + i)))) (upd e (j * w + i) (nI (tu_m 1 w h w0 m (j * w + i)))) ?_ ?_)
          · exact ⟨rfl, rfl, rfl, rfl, rfl, rfl, trivial⟩
          · unfold tu_g tu_m
            rw [ta, tb, ex, ey]
            exact ⟨(by repeat (first | with_reducible assumption | refine ex_eq ?_ | refine ex_ne ?_ (by omega) | exact ex_lt (by with_reducible assumption) | rw [List.length_set] | assumption)), (by repeat (first | with_reducible assumption | refine ex_eq ?_ | refine ex_ne ?_ (by omega) | exact ex_lt (by with_reducible assumption) | rw [List.length_set] | assumption)), (by repeat (first | with_reducible assumption | refine ex_eq ?_ | refine ex_ne ?_ (by omega) | exact ex_lt (by with_reducible assumption) | rw [List.length_set] | assumption))⟩
          · intro k' hk'
            by_cases e' : k' = j * w + i
            · subst e'; simp only [upd, if_true]; exact ⟨trivial, trivial⟩
            · simp only [upd, if_neg e']; exact hfe k' (by omega)
        · obtain rfl : sw = 1 := by rw [hsw]; rfl
          have ex : tu_x 2 w i j = j := rfl
          have ey : tu_y 2 h i j = i := rfl
          rw [ex] at hx hkk hgm1
          rw [ey] at hy hkk hgm1
          refine ew_iload (M := mX4_becomeTurned) dX4_becomeTurned_60 rfl ?_
          refine ew_aload_n (M := mX4_becomeTurned) dX4_becomeTurned_62 rfl (Or.inr (Or.inl ⟨_, rfl⟩)) ?_
          refine ew_get (M := mX4_becomeTurned) dX4_becomeTurned_63 fX4_9 (by repeat (first | with_reducible assumption | refine ex_eq ?_ | refine ex_ne ?_ (by omega) | exact ex_lt (by with_reducible assumption) | rw [List.length_set] | assumption)) (by rfl) ?_
          refine ew_icmp_ge (M := mX4_becomeTurned) (tgt := 184) dX4_becomeTurned_66 rfl (fun h => absurd h (nI_ge hi (by omega))) (fun _ => ?_)
          refine ew_iload_n (M := mX4_becomeTurned) dX4_becomeTurned_69 rfl ?_
          refine ew_if_eq (M := mX4_becomeTurned) (tgt := 78) dX4_becomeTurned_70 rfl (fun h => absurd h (by decide)) (fun _ => ?_)
          refine ew_iload (M := mX4_becomeTurned) dX4_becomeTurned_73 rfl ?_
          refine ew_goto (M := mX4_becomeTurned) (tgt := 96) dX4_becomeTurned_75 rfl ?_
          refine ew_istore (M := mX4_becomeTurned) dX4_becomeTurned_96 (by decide) rfl ?_
          refine ew_iload_n (M := mX4_becomeTurned) dX4_becomeTurned_98 rfl ?_
          refine ew_if_eq (M := mX4_becomeTurned) (tgt := 107) dX4_becomeTurned_99 rfl (fun h => absurd h (by decide)) (fun _ => ?_)
          refine ew_iload (M := mX4_becomeTurned) dX4_becomeTurned_102 rfl ?_
          refine ew_goto (M := mX4_becomeTurned) (tgt := 126) dX4_becomeTurned_104 rfl ?_
          refine ew_istore (M := mX4_becomeTurned) dX4_becomeTurned_126 (by decide) rfl ?_
          refine ew_aload_n (M := mX4_becomeTurned) dX4_becomeTurned_128 rfl (Or.inr (Or.inl ⟨_, rfl⟩)) ?_
          refine ew_iload (M := mX4_becomeTurned) dX4_becomeTurned_129 rfl ?_
          refine ew_iload (M := mX4_becomeTurned) dX4_becomeTurned_131 rfl ?_
          refine ew_callV (M := mX4_becomeTurned) dX4_becomeTurned_133 vX4_42 (by repeat (first | with_reducible assumption | refine ex_eq ?_ | refine ex_ne ?_ (by omega) | exact ex_lt (by with_reducible assumption) | rw [List.length_set] | assumption)) rfl (sp_greyOf hq2 hx hy) rfl (Nat.le_of_ble_eq_true rfl) ⟨Nat.le_refl _, Nat.le_refl _⟩ rfl (fun H133 r133 q133 => ?_)
          obtain ⟨rfl, rfl⟩ := q133
          refine ew_istore (M := mX4_becomeTurned) dX4_becomeTurned_136 (by decide) rfl ?_
          refine ew_aload_n (M := mX4_becomeTurned) dX4_becomeTurned_138 rfl (Or.inr (Or.inl ⟨_, rfl⟩)) ?_
          refine ew_iload (M := mX4_becomeTurned) dX4_becomeTurned_139 rfl ?_
          refine ew_iload (M := mX4_becomeTurned) dX4_becomeTurned_141 rfl ?_
          refine ew_iload_n (M := mX4_becomeTurned) dX4_becomeTurned_143 rfl ?_
          refine ew_iconst (M := mX4_becomeTurned) dX4_becomeTurned_144 (v := nI 3) (by decide) ?_
          refine ew_icmp_ne (M := mX4_becomeTurned) (tgt := 157) dX4_becomeTurned_145 rfl (fun _ => ?_) (fun h => absurd h (by decide))
          refine ew_iload (M := mX4_becomeTurned) dX4_becomeTurned_157 rfl ?_
          refine ew_callV (M := mX4_becomeTurned) dX4_becomeTurned_159 vX4_46 (by repeat (first | with_reducible assumption | refine ex_eq ?_ | refine ex_ne ?_ (by omega) | exact ex_lt (by with_reducible assumption) | rw [List.length_set] | assumption)) rfl (sp_setGrey0 hp2 hz hi hj) rfl (Nat.le_of_ble_eq_true rfl) ⟨Nat.le_refl _, Nat.le_refl _⟩ rfl (fun H159 r159 q159 => ?_)
          obtain ⟨rfl, rfl⟩ := q159
          refine ew_aload_n (M := mX4_becomeTurned) dX4_becomeTurned_162 rfl (Or.inr (Or.inl ⟨_, rfl⟩)) ?_
          refine ew_iload (M := mX4_becomeTurned) dX4_becomeTurned_163 rfl ?_
          refine ew_iload (M := mX4_becomeTurned) dX4_becomeTurned_165 rfl ?_
          refine ew_aload_n (M := mX4_becomeTurned) dX4_becomeTurned_167 rfl (Or.inr (Or.inl ⟨_, rfl⟩)) ?_
          refine ew_iload (M := mX4_becomeTurned) dX4_becomeTurned_168 rfl ?_
          refine ew_iload (M := mX4_becomeTurned) dX4_becomeTurned_170 rfl ?_
          refine ew_callV (M := mX4_becomeTurned) dX4_becomeTurned_172 vX4_50 (by repeat (first | with_reducible assumption | refine ex_eq ?_ | refine ex_ne ?_ (by omega) | exact ex_lt (by with_reducible assumption) | rw [List.length_set] | assumption)) rfl (sp_isMasked (hq2.ch (L := [p + 1]) (ex_ch.rf.set (by simp)) (by simp; omega) (by simp; omega) (by simp; omega)) hx hy) rfl (Nat.le_of_ble_eq_true rfl) ⟨Nat.le_refl _, Nat.le_refl _⟩ rfl (fun H172 r172 q172 => ?_)
          obtain ⟨rfl, rfl⟩ := q172
          refine ew_callV (M := mX4_becomeTurned) dX4_becomeTurned_175 vX4_53 (by repeat (first | with_reducible assumption | refine ex_eq ?_ | refine ex_ne ?_ (by omega) | exact ex_lt (by with_reducible assumption) | rw [List.length_set] | assumption)) rfl (sp_setMasked0 (p := p) (w := w) (h := h) (gs := upd f (j * w + i) _) (ms := e) ⟨(by repeat (first | with_reducible assumption | refine ex_eq ?_ | refine ex_ne ?_ (by omega) | exact ex_lt (by with_reducible assumption) | rw [List.length_set] | assumption)), (by repeat (first | with_reducible assumption | refine ex_eq ?_ | refine ex_ne ?_ (by omega) | exact ex_lt (by with_reducible assumption) | rw [List.length_set] | assumption)), (by repeat (first | with_reducible assumption | refine ex_eq ?_ | refine ex_ne ?_ (by omega) | exact ex_lt (by with_reducible assumption) | rw [List.length_set] | assumption))⟩ hz hi hj hgm1.2) rfl (Nat.le_of_ble_eq_true rfl) ⟨Nat.le_refl _, Nat.le_refl _⟩ rfl (fun H175 r175 q175 => ?_)
          obtain ⟨rfl, rfl⟩ := q175
          refine ew_iinc (M := mX4_becomeTurned) dX4_becomeTurned_178 rfl (ex_inc i) (by decide) rfl ?_
          refine ew_goto (M := mX4_becomeTurned) (tgt := 60) dX4_becomeTurned_181 rfl ?_
          refine ew_ls _ ?_ (k _ ((hc2.set (by simp)).set (by simp)) (upd f (j * w + i) (nI (tu_g 2 w h w0 g (j * w + i)))) (upd e (j * w + i) (nI (tu_m 2 w h w0 m (j * w + i)))) ?_ ?_)
          · exact ⟨rfl, rfl, rfl, rfl, rfl, rfl, trivial⟩
          · unfold tu_g tu_m
            rw [ta, tb, ex, ey]
            exact ⟨(by repeat (first | with_reducible assumption | refine ex_eq ?_ | refine ex_ne ?_ (by omega) | exact ex_lt (by with_reducible assumption) | rw [List.length_set] | assumption)), (by repeat (first | with_reducible assumption | refine ex_eq ?_ | refine ex_ne ?_ (by omega) | exact ex_lt (by with_reducible assumption) | rw [List.length_set] | assumption)), (by repeat (first | with_reducible assumption | refine ex_eq ?_ | refine ex_ne ?_ (by omega) | exact ex_lt (by with_reducible assumption) | rw [List.length_set] | assumption))⟩
          · intro k' hk'
            by_cases e' : k' = j * w + i
            · subst e'; simp only [upd, if_true]; exact ⟨trivial, trivial⟩
            · simp only [upd, if_neg e']; exact hfe k' (by omega)
        · obtain rfl : sw = 0 := by rw [hsw]; rfl
          have ex : tu_x 3 w i j = i := rfl
          have ey : tu_y 3 h i j = j := rfl
          rw [ex] at hx hkk hgm1
          rw [ey] at hy hkk hgm1
          refine ew_iload (M := mX4_becomeTurned) dX4_becomeTurned_60 rfl ?_
          refine ew_aload_n (M := mX4_becomeTurned) dX4_becomeTurned_62 rfl (Or.inr (Or.inl ⟨_, rfl⟩)) ?_
          refine ew_get (M := mX4_becomeTurned) dX4_becomeTurned_63 fX4_9 (by repeat (first | with_reducible assumption | refine ex_eq ?_ | refine ex_ne ?_ (by omega) | exact ex_lt (by with_reducible assumption) | rw [List.length_set] | assumption)) (by rfl) ?_
          refine ew_icmp_ge (M := mX4_becomeTurned) (tgt := 184) dX4_becomeTurned_66 rfl (fun h => absurd h (nI_ge hi (by omega))) (fun _ => ?_)
          refine ew_iload_n (M := mX4_becomeTurned) dX4_becomeTurned_69 rfl ?_
          refine ew_if_eq (M := mX4_becomeTurned) (tgt := 78) dX4_becomeTurned_70 rfl (fun _ => ?_) (fun h => absurd (by decide) h)
          refine ew_iload_n (M := mX4_becomeTurned) dX4_becomeTurned_78 rfl ?_
          refine ew_if_ne (M := mX4_becomeTurned) (tgt := 94) dX4_becomeTurned_79 rfl (fun _ => ?_) (fun h => absurd h (by decide))
          refine ew_iload (M := mX4_becomeTurned) dX4_becomeTurned_94 rfl ?_
          refine ew_istore (M := mX4_becomeTurned) dX4_becomeTurned_96 (by decide) rfl ?_
          refine ew_iload_n (M := mX4_becomeTurned) dX4_becomeTurned_98 rfl ?_
          refine ew_if_eq (M := mX4_becomeTurned) (tgt := 107) dX4_becomeTurned_99 rfl (fun _ => ?_) (fun h => absurd (by decide) h)
          refine ew_iload_n (M := mX4_becomeTurned) dX4_becomeTurned_107 rfl ?_
          refine ew_iconst (M := mX4_becomeTurned) dX4_becomeTurned_108 (v := nI 1) (by decide) ?_
          refine ew_icmp_ne (M := mX4_becomeTurned) (tgt := 124) dX4_becomeTurned_109 rfl (fun _ => ?_) (fun h => absurd h (by decide))
          refine ew_iload (M := mX4_becomeTurned) dX4_becomeTurned_124 rfl ?_
          refine ew_istore (M := mX4_becomeTurned) dX4_becomeTurned_126 (by decide) rfl ?_
          refine ew_aload_n (M := mX4_becomeTurned) dX4_becomeTurned_128 rfl (Or.inr (Or.inl ⟨_, rfl⟩)) ?_
          refine ew_iload (M := mX4_becomeTurned) dX4_becomeTurned_129 rfl ?_
          refine ew_iload (M := mX4_becomeTurned) dX4_becomeTurned_131 rfl ?_
          refine ew_callV (M := mX4_becomeTurned) dX4_becomeTurned_133 vX4_42 (by repeat (first | with_reducible assumption | refine ex_eq ?_ | refine ex_ne ?_ (by omega) | exact ex_lt (by with_reducible assumption) | rw [List.length_set] | assumption)) rfl (sp_greyOf hq2 hx hy) rfl (Nat.le_of_ble_eq_true rfl) ⟨Nat.le_refl _, Nat.le_refl _⟩ rfl (fun H133 r133 q133 => ?_)
          obtain ⟨rfl, rfl⟩ := q133
          refine ew_istore (M := mX4_becomeTurned) dX4_becomeTurned_136 (by decide) rfl ?_
          refine ew_aload_n (M := mX4_becomeTurned) dX4_becomeTurned_138 rfl (Or.inr (Or.inl ⟨_, rfl⟩)) ?_
          refine ew_iload (M := mX4_becomeTurned) dX4_becomeTurned_139 rfl ?_
          refine ew_iload (M := mX4_becomeTurned) dX4_becomeTurned_141 rfl ?_
          refine ew_iload_n (M := mX4_becomeTurned) dX4_becomeTurned_143 rfl ?_
          refine ew_iconst (M := mX4_becomeTurned) dX4_becomeTurned_144 (v := nI 3) (by decide) ?_
          refine ew_icmp_ne (M := mX4_becomeTurned) (tgt := 157) dX4_becomeTurned_145 rfl (fun h => absurd rfl h) (fun _ => ?_)
          refine ew_sipush (M := mX4_becomeTurned) dX4_becomeTurned_148 (v := nI 255) (by decide) ?_
          refine ew_iload (M := mX4_becomeTurned) dX4_becomeTurned_151 rfl ?_
          refine ew_isub (M := mX4_becomeTurned) dX4_becomeTurned_153 ?_
          rw [pk_sub (show g (j * w0 + i) ≤ 255 by omega)]
          refine ew_goto (M := mX4_becomeTurned) (tgt := 159) dX4_becomeTurned_154 rfl ?_
          refine ew_callV (M := mX4_becomeTurned) dX4_becomeTurned_159 vX4_46 (by repeat (first | with_reducible assumption | refine ex_eq ?_ | refine ex_ne ?_ (by omega) | exact ex_lt (by with_reducible assumption) | rw [List.length_set] | assumption)) rfl (sp_setGrey0 hp2 hz hi hj) rfl (Nat.le_of_ble_eq_true rfl) ⟨Nat.le_refl _, Nat.le_refl _⟩ rfl (fun H159 r159 q159 => ?_)
          obtain ⟨rfl, rfl⟩ := q159
          refine ew_aload_n (M := mX4_becomeTurned) dX4_becomeTurned_162 rfl (Or.inr (Or.inl ⟨_, rfl⟩)) ?_
          refine ew_iload (M := mX4_becomeTurned) dX4_becomeTurned_163 rfl ?_
          refine ew_iload (M := mX4_becomeTurned) dX4_becomeTurned_165 rfl ?_
          refine ew_aload_n (M := mX4_becomeTurned) dX4_becomeTurned_167 rfl (Or.inr (Or.inl ⟨_, rfl⟩)) ?_
          refine ew_iload (M := mX4_becomeTurned) dX4_becomeTurned_168 rfl ?_
          refine ew_iload (M := mX4_becomeTurned) dX4_becomeTurned_170 rfl ?_
          refine ew_callV (M := mX4_becomeTurned) dX4_becomeTurned_172 vX4_50 (by repeat (first | with_reducible assumption | refine ex_eq ?_ | refine ex_ne ?_ (by omega) | exact ex_lt (by with_reducible assumption) | rw [List.length_set] | assumption)) rfl (sp_isMasked (hq2.ch (L := [p + 1]) (ex_ch.rf.set (by simp)) (by simp; omega) (by simp; omega) (by simp; omega)) hx hy) rfl (Nat.le_of_ble_eq_true rfl) ⟨Nat.le_refl _, Nat.le_refl _⟩ rfl (fun H172 r172 q172 => ?_)
          obtain ⟨rfl, rfl⟩ := q172
          refine ew_callV (M := mX4_becomeTurned) dX4_becomeTurned_175 vX4_53 (by repeat (first | with_reducible assumption | refine ex_eq ?_ | refine ex_ne ?_ (by omega) | exact ex_lt (by with_reducible assumption) | rw [List.length_set] | assumption)) rfl (sp_setMasked0 (p := p) (w := w) (h := h) (gs := upd f (j * w + i) _) (ms := e) ⟨(by repeat (first | with_reducible assumption | refine ex_eq ?_ | refine ex_ne ?_ (by omega) | exact ex_lt (by with_reducible assumption) | rw [List.length_set] | assumption)), (by repeat (first | with_reducible assumption | refine ex_eq ?_ | refine ex_ne ?_ (by omega) | exact ex_lt (by with_reducible assumption) | rw [List.length_set] | assumption)), (by repeat (first | with_reducible assumption | refine ex_eq ?_ | refine ex_ne ?_ (by omega) | exact ex_lt (by with_reducible assumption) | rw [List.length_set] | assumption))⟩ hz hi hj hgm1.2) rfl (Nat.le_of_ble_eq_true rfl) ⟨Nat.le_refl _, Nat.le_refl _⟩ rfl (fun H175 r175 q175 => ?_)
          obtain ⟨rfl, rfl⟩ := q175
          refine ew_iinc (M := mX4_becomeTurned) dX4_becomeTurned_178 rfl (ex_inc i) (by decide) rfl ?_
          refine ew_goto (M := mX4_becomeTurned) (tgt := 60) dX4_becomeTurned_181 rfl ?_
          refine ew_ls _ ?_ (k _ ((hc2.set (by simp)).set (by simp)) (upd f (j * w + i) (nI (tu_g 3 w h w0 g (j * w + i)))) (upd e (j * w + i) (nI (tu_m 3 w h w0 m (j * w + i)))) ?_ ?_)
          · exact ⟨rfl, rfl, rfl, rfl, rfl, rfl, trivial⟩
          · unfold tu_g tu_m
            rw [ta, tb, ex, ey, if_pos rfl]
            exact ⟨(by repeat (first | with_reducible assumption | refine ex_eq ?_ | refine ex_ne ?_ (by omega) | exact ex_lt (by with_reducible assumption) | rw [List.length_set] | assumption)), (by repeat (first | with_reducible assumption | refine ex_eq ?_ | refine ex_ne ?_ (by omega) | exact ex_lt (by with_reducible assumption) | rw [List.length_set] | assumption)), (by repeat (first | with_reducible assumption | refine ex_eq ?_ | refine ex_ne ?_ (by omega) | exact ex_lt (by with_reducible assumption) | rw [List.length_set] | assumption))⟩
          · intro k' hk'
            by_cases e' : k' = j * w + i
            · subst e'; simp only [upd, if_true]; exact ⟨trivial, trivial⟩
            · simp only [upd, if_neg e']; exact hfe k' (by omega)
      · intro H2 hc2 f e hp2 hfe
        obtain ⟨hp21, hp22, hp23⟩ := id hp2
        refine ew_iload (M := mX4_becomeTurned) dX4_becomeTurned_60 rfl ?_
        refine ew_aload_n (M := mX4_becomeTurned) dX4_becomeTurned_62 rfl (Or.inr (Or.inl ⟨_, rfl⟩)) ?_
        refine ew_get (M := mX4_becomeTurned) dX4_becomeTurned_63 fX4_9 (by repeat (first | with_reducible assumption | refine ex_eq ?_ | refine ex_ne ?_ (by omega) | exact ex_lt (by with_reducible assumption) | rw [List.length_set] | assumption)) (by rfl) ?_
        refine ew_icmp_ge (M := mX4_becomeTurned) (tgt := 184) dX4_becomeTurned_66 rfl (fun _ => ?_) (fun h => absurd (nI_le (Nat.le_refl _) (by omega)) h)
        refine ew_iinc (M := mX4_becomeTurned) dX4_becomeTurned_184 rfl (ex_inc j) (by decide) rfl ?_
        refine ew_goto (M := mX4_becomeTurned) (tgt := 48) dX4_becomeTurned_187 rfl ?_
        refine ew_ls _ ?_ (k H2 hc2 f e hp2 (fun k' hk' => hfe k' (by rw [Nat.succ_mul] at hk'; exact hk')))
        exact ⟨rfl, rfl, rfl, rfl, rfl, trivial⟩
    · intro H2 hc2 f e hp2 hfe
      obtain ⟨hp21, hp22, hp23⟩ := id hp2
      refine ew_iload (M := mX4_becomeTurned) dX4_becomeTurned_48 rfl ?_
      refine ew_aload_n (M := mX4_becomeTurned) dX4_becomeTurned_50 rfl (Or.inr (Or.inl ⟨_, rfl⟩)) ?_
      refine ew_get (M := mX4_becomeTurned) dX4_becomeTurned_51 fX4_15 (by repeat (first | with_reducible assumption | refine ex_eq ?_ | refine ex_ne ?_ (by omega) | exact ex_lt (by with_reducible assumption) | rw [List.length_set] | assumption)) (by rfl) ?_
      refine ew_icmp_ge (M := mX4_becomeTurned) (tgt := 190) dX4_becomeTurned_54 rfl (fun _ => ?_) (fun h => absurd (nI_le (Nat.le_refl _) (by omega)) h)
      refine ew_vret (M := mX4_becomeTurned) dX4_becomeTurned_190 rfl (Nat.le_refl _) (Nat.le_refl _) ?_
      refine ⟨rfl, hc2, ⟨hz, fun k hk => ?_⟩, f, e, hp2, fun k hk => hfe k (by rw [Nat.mul_comm]; exact hk)⟩
      obtain ⟨i, j, hi, hj, rfl⟩ := tu_split hk
      obtain ⟨ta, tb⟩ := tu_at (j := j) hi
      have hx : tu_x how w i j < w0 := by
        unfold tu_x; split at hw <;> split at hhh <;> (try split) <;> (try split) <;> omega
      have hy : tu_y how h i j < h0 := by
        unfold tu_y; split at hw <;> split at hhh <;> (try split) <;> (try split) <;> omega
      have hg1 := hgm _ (pi_lt hx hy)
      unfold tu_g tu_m
      rw [ta, tb]
      exact ⟨by split <;> omega, hg1.2⟩
  by_cases h2 : how = 2
  · subst h2
    simp only [if_true] at hw hhh
    subst hw hhh
    obtain rfl : sw = 1 := hsw
    refine ew_iload_n (M := mX4_becomeTurned) dX4_becomeTurned_0 rfl ?_
    refine ew_iconst (M := mX4_becomeTurned) dX4_becomeTurned_1 (v := nI 2) (by decide) ?_
    refine ew_icmp_ne (M := mX4_becomeTurned) (tgt := 9) dX4_becomeTurned_2 rfl (fun h => absurd rfl h) (fun _ => ?_)
    refine ew_iconst (M := mX4_becomeTurned) dX4_becomeTurned_5 (v := nI 1) (by decide) ?_
    refine ew_goto (M := mX4_becomeTurned) (tgt := 10) dX4_becomeTurned_6 rfl ?_
    refine ew_istore_n (M := mX4_becomeTurned) dX4_becomeTurned_10 (by decide) rfl ?_
    refine ew_aload_n (M := mX4_becomeTurned) dX4_becomeTurned_11 rfl (Or.inr (Or.inl ⟨_, rfl⟩)) ?_
    refine ew_iload_n (M := mX4_becomeTurned) dX4_becomeTurned_12 rfl ?_
    refine ew_if_eq (M := mX4_becomeTurned) (tgt := 23) dX4_becomeTurned_13 rfl (fun h => absurd h (by decide)) (fun _ => ?_)
    refine ew_aload_n (M := mX4_becomeTurned) dX4_becomeTurned_16 rfl (Or.inr (Or.inl ⟨_, rfl⟩)) ?_
    refine ew_get (M := mX4_becomeTurned) dX4_becomeTurned_17 fX4_15 (by repeat (first | with_reducible assumption | refine ex_eq ?_ | refine ex_ne ?_ (by omega) | exact ex_lt (by with_reducible assumption) | rw [List.length_set] | assumption)) (by rfl) ?_
    refine ew_goto (M := mX4_becomeTurned) (tgt := 27) dX4_becomeTurned_20 rfl ?_
    refine ew_iload_n (M := mX4_becomeTurned) dX4_becomeTurned_27 rfl ?_
    refine ew_if_eq (M := mX4_becomeTurned) (tgt := 38) dX4_becomeTurned_28 rfl (fun h => absurd h (by decide)) (fun _ => ?_)
    refine ew_aload_n (M := mX4_becomeTurned) dX4_becomeTurned_31 rfl (Or.inr (Or.inl ⟨_, rfl⟩)) ?_
    refine ew_get (M := mX4_becomeTurned) dX4_becomeTurned_32 fX4_9 (by repeat (first | with_reducible assumption | refine ex_eq ?_ | refine ex_ne ?_ (by omega) | exact ex_lt (by with_reducible assumption) | rw [List.length_set] | assumption)) (by rfl) ?_
    refine ew_goto (M := mX4_becomeTurned) (tgt := 42) dX4_becomeTurned_35 rfl ?_
    refine ew_callV (M := mX4_becomeTurned) dX4_becomeTurned_42 vX4_34 (by repeat (first | with_reducible assumption | refine ex_eq ?_ | refine ex_ne ?_ (by omega) | exact ex_lt (by with_reducible assumption) | rw [List.length_set] | assumption)) rfl (sp_setSize hp hz) rfl (Nat.le_of_ble_eq_true rfl) ⟨Nat.le_refl _, Nat.le_refl _⟩ rfl (fun H42 r42 q42 => ?_)
    obtain ⟨rfl, hc1, hp1⟩ := q42
    refine ew_iconst (M := mX4_becomeTurned) dX4_becomeTurned_45 (v := nI 0) (by decide) ?_
    refine ew_istore (M := mX4_becomeTurned) dX4_becomeTurned_46 (by decide) rfl ?_
    refine ew_ls _ ?_ (key _ (hc1.sub (by simp)) _ _ hp1 (fun k hk => absurd hk (by rw [Nat.zero_mul]; exact Nat.not_lt_zero k)))
    exact ⟨rfl, rfl, rfl, rfl, rfl, trivial⟩
  · simp only [if_neg h2] at hw hhh hsw
    subst hw hhh hsw
    refine ew_iload_n (M := mX4_becomeTurned) dX4_becomeTurned_0 rfl ?_
    refine ew_iconst (M := mX4_becomeTurned) dX4_becomeTurned_1 (v := nI 2) (by decide) ?_
    refine ew_icmp_ne (M := mX4_becomeTurned) (tgt := 9) dX4_becomeTurned_2 rfl (fun _ => ?_) (fun h => absurd h (fun e => h2 ((nI_eq (by omega) (by decide)).mp e)))
    refine ew_iconst (M := mX4_becomeTurned) dX4_becomeTurned_9 (v := nI 0) (by decide) ?_
    refine ew_istore_n (M := mX4_becomeTurned) dX4_becomeTurned_10 (by decide) rfl ?_
    refine ew_aload_n (M := mX4_becomeTurned) dX4_becomeTurned_11 rfl (Or.inr (Or.inl ⟨_, rfl⟩)) ?_
    refine ew_iload_n (M := mX4_becomeTurned) dX4_becomeTurned_12 rfl ?_
    refine ew_if_eq (M := mX4_becomeTurned) (tgt := 23) dX4_becomeTurned_13 rfl (fun _ => ?_) (fun h => absurd (by decide) h)
    refine ew_aload_n (M := mX4_becomeTurned) dX4_becomeTurned_23 rfl (Or.inr (Or.inl ⟨_, rfl⟩)) ?_
    refine ew_get (M := mX4_becomeTurned) dX4_becomeTurned_24 fX4_9 (by repeat (first | with_reducible assumption | refine ex_eq ?_ | refine ex_ne ?_ (by omega) | exact ex_lt (by with_reducible assumption) | rw [List.length_set] | assumption)) (by rfl) ?_
    refine ew_iload_n (M := mX4_becomeTurned) dX4_becomeTurned_27 rfl ?_
    refine ew_if_eq (M := mX4_becomeTurned) (tgt := 38) dX4_becomeTurned_28 rfl (fun _ => ?_) (fun h => absurd (by decide) h)
    refine ew_aload_n (M := mX4_becomeTurned) dX4_becomeTurned_38 rfl (Or.inr (Or.inl ⟨_, rfl⟩)) ?_
    refine ew_get (M := mX4_becomeTurned) dX4_becomeTurned_39 fX4_15 (by repeat (first | with_reducible assumption | refine ex_eq ?_ | refine ex_ne ?_ (by omega) | exact ex_lt (by with_reducible assumption) | rw [List.length_set] | assumption)) (by rfl) ?_
    refine ew_callV (M := mX4_becomeTurned) dX4_becomeTurned_42 vX4_34 (by repeat (first | with_reducible assumption | refine ex_eq ?_ | refine ex_ne ?_ (by omega) | exact ex_lt (by with_reducible assumption) | rw [List.length_set] | assumption)) rfl (sp_setSize hp hz) rfl (Nat.le_of_ble_eq_true rfl) ⟨Nat.le_refl _, Nat.le_refl _⟩ rfl (fun H42 r42 q42 => ?_)
    obtain ⟨rfl, hc1, hp1⟩ := q42
    refine ew_iconst (M := mX4_becomeTurned) dX4_becomeTurned_45 (v := nI 0) (by decide) ?_
    refine ew_istore (M := mX4_becomeTurned) dX4_becomeTurned_46 (by decide) rfl ?_
    refine ew_ls _ ?_ (key _ (hc1.sub (by simp)) _ _ hp1 (fun k hk => absurd hk (by rw [Nat.zero_mul]; exact Nat.not_lt_zero k)))
    exact ⟨rfl, rfl, rfl, rfl, rfl, trivial⟩
end
section
theorem ex_methF {N : ex_M} {d mc ms : Nat} {H : ex_H} {As : List Value} {post : ex_H → Option Value → Prop} (ls : List (Nat × Value)) (hls : lv_args 0 As = ls) (hy : plainFor N.1 = true) (hsp : N.2.2.2.2 = none)
    (hL : ∀ b : ex_B, (lg_sl (As.map (ex_v b))).length ≤ N.2.2.1) (k : ex_W N d mc ms post H 0 ls [] 0 0) : ex_Met N d mc ms H As post := by
  intro l D dA b
  refine MetFree.of_bodySF (code := N.2.1) (maxLocals := N.2.2.1) (ret := N.2.2.2.1) hy ?_ ?_
  · intro args s m h hn
    obtain ⟨meth, c, h1, h2, h3, h4, h5, h6, -, -⟩ := Cond.code_spec hn (atoms_spec (ws := .code N.1 N.2.1 N.2.2.1 N.2.2.2.1 :: ex_g) h _ List.mem_cons_self)
    exact ⟨meth, c, h1, h2, h3, h4, h5, h6⟩
  · intro p e s m args below meth c s₁ B hml hv _
    obtain ⟨rfl, hP, hK⟩ := hv
    have hh0 : s₁.heap = s.heap := by rw [B.state]; rfl
    have hts := atoms_spec (ws := .code N.1 N.2.1 N.2.2.1 N.2.2.2.1 :: ex_g) B.pre
    have hl := lv_entry (As.map (ex_v b)) (n := N.2.2.1) (hL b)
    have hw := k p l e s m _ below meth c D dA b ⟨B.exec, B.bytes, B.returns, B.notSynchronized, hml, findClass_of_methodNamed B.named, (name_of_methodNamed B.named B.method).1, fun w hw => hts w (List.mem_cons_of_mem _ hw), hK, fun L xs h => by rw [hsp] at h; cases h⟩ s.heap [] _ hP va_S.rf (by
      refine ⟨hl.1, hl.2.1, fun i v hi => ?_⟩
      have hm := ex_lookup_mem _ _ _ hi
      rw [← hls] at hm
      exact hl.2.2 (i, ex_v b v) (by rw [ex_lv_args]; exact List.mem_map.mpr ⟨(i, v), hm, rfl⟩))
    rw [List.map_nil, ← lg_entry_eq] at hw
    obtain ⟨t, a1, o, b1, b2, b3⟩ := hw s₁ hh0 (Stand.of_body B)
    exact ⟨t, o, a1, b1, b2, ⟨b3.1, b3.2⟩⟩
/-- what is left over of a less c by n (c is at most 4 and n at least 1) -/
def fm (a c n : Nat) : Nat := (a + 4 * n - c) % n
def fm_r (a c n : Nat) : Int32 := (nI a - nI c) - (nI a - nI c) / nI n * nI n
set_option maxRecDepth 100000 in
theorem fm_ok0 : ∀ a < 18, ∀ c < 5, ∀ n < 21, 0 < n → (if 0 ≤ (nI a - nI c) ^^^ nI n then fm_r a c n = nI (fm a c n) else if fm_r a c n = 0 then fm_r a c n = nI (fm a c n) else fm_r a c n + nI n = nI (fm a c n)) := by decide +kernel
theorem fm_ok (a : Nat) (ha : a < 18) (c : Nat) (hc : c < 5) (n : Nat) (hn : n < 21) (h0 : 0 < n) : (0 ≤ (nI a - nI c) ^^^ nI n → fm_r a c n = nI (fm a c n)) ∧ (¬ 0 ≤ (nI a - nI c) ^^^ nI n → fm_r a c n = 0 → fm_r a c n = nI (fm a c n)) ∧ (¬ 0 ≤ (nI a - nI c) ^^^ nI n → ¬ fm_r a c n = 0 → fm_r a c n + nI n = nI (fm a c n)) := by
  have h := fm_ok0 a ha c hc n hn h0
  refine ⟨fun h1 => ?_, fun h1 h2 => ?_, fun h1 h2 => ?_⟩
  · rw [if_pos h1] at h; exact h
  · rw [if_neg h1, if_pos h2] at h; exact h
  · rw [if_neg h1, if_neg h2] at h; exact h
set_option maxRecDepth 100000 in
theorem fm_ok2 : ∀ a < 18, ∀ c < 5, ∀ n < 21, 0 < n → (fm_r a c n + nI n) - (fm_r a c n + nI n) / nI n * nI n = nI (fm a c n) := by decide +kernel
theorem nI_n0 {n : Nat} (h0 : 0 < n) (h : n < 2 ^ 31) : ¬ nI n = 0 := fun e => by rw [nI_z h] at e; omega
theorem sp_floorMod {d : Nat} {H : ex_H} {a c n : Nat} (ha : a < 18) (hc : c < 5) (hn : n < 21) (h0 : 0 < n) : ex_Met mJ9_floorMod_7cf53 d 0 0 H [.int (nI a - nI c), .int (nI n)] (ex_r H (.int (nI (fm a c n)))) := by
  obtain ⟨f1, f2, f3⟩ := fm_ok a ha c hc n hn h0
  refine ex_methF [(0, .int (nI a - nI c)), (1, .int (nI n))] rfl (by decide +kernel) rfl (fun b => Nat.le_of_ble_eq_true rfl) ?_
  refine ew_iload_n (M := mJ9_floorMod_7cf53) dJ9_floorMod_7cf53_0 rfl ?_
  refine ew_iload_n (M := mJ9_floorMod_7cf53) dJ9_floorMod_7cf53_1 rfl ?_
  refine ew_irem (M := mJ9_floorMod_7cf53) dJ9_floorMod_7cf53_2 (nI_n0 h0 (by omega)) ?_
  refine ew_istore_n (M := mJ9_floorMod_7cf53) dJ9_floorMod_7cf53_3 (by decide) rfl ?_
  refine ew_iload_n (M := mJ9_floorMod_7cf53) dJ9_floorMod_7cf53_4 rfl ?_
  refine ew_iload_n (M := mJ9_floorMod_7cf53) dJ9_floorMod_7cf53_5 rfl ?_
  refine ew_ixor (M := mJ9_floorMod_7cf53) dJ9_floorMod_7cf53_6 ?_
  refine ew_if_ge (M := mJ9_floorMod_7cf53) (tgt := 18) dJ9_floorMod_7cf53_7 rfl (fun c7 => ?_) (fun c7 => ?_)
  · refine ew_iload_n (M := mJ9_floorMod_7cf53) dJ9_floorMod_7cf53_18 rfl ?_
    refine ew_iret (M := mJ9_floorMod_7cf53) dJ9_floorMod_7cf53_19 rfl (by first | rfl | decide) (Nat.le_refl _) (Nat.le_refl _) ?_
    first | exact ⟨rfl, by rw [← f2 c7 c11]; rfl⟩ | exact ⟨rfl, by rw [← f1 c7]; rfl⟩
  · refine ew_iload_n (M := mJ9_floorMod_7cf53) dJ9_floorMod_7cf53_10 rfl ?_
    refine ew_if_eq (M := mJ9_floorMod_7cf53) (tgt := 18) dJ9_floorMod_7cf53_11 rfl (fun c11 => ?_) (fun c11 => ?_)
    · refine ew_iload_n (M := mJ9_floorMod_7cf53) dJ9_floorMod_7cf53_18 rfl ?_
      refine ew_iret (M := mJ9_floorMod_7cf53) dJ9_floorMod_7cf53_19 rfl (by first | rfl | decide) (Nat.le_refl _) (Nat.le_refl _) ?_
      first | exact ⟨rfl, by rw [← f2 c7 c11]; rfl⟩ | exact ⟨rfl, by rw [← f1 c7]; rfl⟩
    · refine ew_iload_n (M := mJ9_floorMod_7cf53) dJ9_floorMod_7cf53_14 rfl ?_
      refine ew_iload_n (M := mJ9_floorMod_7cf53) dJ9_floorMod_7cf53_15 rfl ?_
      refine ew_iadd (M := mJ9_floorMod_7cf53) dJ9_floorMod_7cf53_16 ?_
      refine ew_iret (M := mJ9_floorMod_7cf53) dJ9_floorMod_7cf53_17 rfl (by first | rfl | decide) (Nat.le_refl _) (Nat.le_refl _) ?_
      exact ⟨rfl, by rw [← f3 c7 c11]; rfl⟩
theorem sp_min {d : Nat} {H : ex_H} {a b : Nat} (ha : a < 2 ^ 31) (hb : b < 2 ^ 31) : ex_Met mJ9_min_7cf53 d 0 0 H [.int (nI a), .int (nI b)] (ex_r H (.int (nI (min a b)))) := by
  refine ex_methF [(0, .int (nI a)), (1, .int (nI b))] rfl (by decide +kernel) rfl (fun b => Nat.le_of_ble_eq_true rfl) ?_
  refine ew_iload_n (M := mJ9_min_7cf53) dJ9_min_7cf53_0 rfl ?_
  refine ew_iload_n (M := mJ9_min_7cf53) dJ9_min_7cf53_1 rfl ?_
  refine ew_icmp_gt (M := mJ9_min_7cf53) (tgt := 9) dJ9_min_7cf53_2 rfl (fun c2 => ?_) (fun c2 => ?_)
  · rw [nI_ltI hb ha] at c2
    refine ew_iload_n (M := mJ9_min_7cf53) dJ9_min_7cf53_9 rfl ?_
    refine ew_iret (M := mJ9_min_7cf53) dJ9_min_7cf53_10 rfl (by first | rfl | decide) (Nat.le_refl _) (Nat.le_refl _) ?_
    exact ⟨rfl, by first | (rw [Nat.min_eq_right (by omega)]; done) | rw [Nat.min_eq_left (by omega)]⟩
  · rw [nI_ltI hb ha] at c2
    refine ew_iload_n (M := mJ9_min_7cf53) dJ9_min_7cf53_5 rfl ?_
    refine ew_goto (M := mJ9_min_7cf53) (tgt := 10) dJ9_min_7cf53_6 rfl ?_
    refine ew_iret (M := mJ9_min_7cf53) dJ9_min_7cf53_10 rfl (by first | rfl | decide) (Nat.le_refl _) (Nat.le_refl _) ?_
    exact ⟨rfl, by first | (rw [Nat.min_eq_right (by omega)]; done) | rw [Nat.min_eq_left (by omega)]⟩
def absI (x : Int32) : Int32 := if 0 ≤ x then x else -x
theorem sp_abs {d : Nat} {H : ex_H} {x : Int32} : ex_Met mJ9_abs_0f7a4 d 0 0 H [.int x] (ex_r H (.int (absI x))) := by
  refine ex_methF [(0, .int x)] rfl (by decide +kernel) rfl (fun b => Nat.le_of_ble_eq_true rfl) ?_
  refine ew_iload_n (M := mJ9_abs_0f7a4) dJ9_abs_0f7a4_0 rfl ?_
  refine ew_if_ge (M := mJ9_abs_0f7a4) (tgt := 9) dJ9_abs_0f7a4_1 rfl (fun c1 => ?_) (fun c1 => ?_)
  · refine ew_iload_n (M := mJ9_abs_0f7a4) dJ9_abs_0f7a4_9 rfl ?_
    refine ew_iret (M := mJ9_abs_0f7a4) dJ9_abs_0f7a4_10 rfl (by first | rfl | decide) (Nat.le_refl _) (Nat.le_refl _) ?_
    exact ⟨rfl, by first | (rw [absI, if_pos c1]; done) | rw [absI, if_neg c1]⟩
  · refine ew_iload_n (M := mJ9_abs_0f7a4) dJ9_abs_0f7a4_4 rfl ?_
    refine ew_ineg (M := mJ9_abs_0f7a4) dJ9_abs_0f7a4_5 ?_
    refine ew_goto (M := mJ9_abs_0f7a4) (tgt := 10) dJ9_abs_0f7a4_6 rfl ?_
    refine ew_iret (M := mJ9_abs_0f7a4) dJ9_abs_0f7a4_10 rfl (by first | rfl | decide) (Nat.le_refl _) (Nat.le_refl _) ?_
    exact ⟨rfl, by first | (rw [absI, if_pos c1]; done) | rw [absI, if_neg c1]⟩
theorem sp_fill {d : Nat} {H : ex_H} {a n : Nat} {f : Nat → Int32} {v : Int32} (hH : H[a]? = some (ar .int n f)) (hn : n < 2 ^ 31) : ex_Met mJ7_fill_53178 d 0 0 H [.ref a, .int v] (fun H' r => r = none ∧ ∃ f', H.set a (ar .int n f') = H' ∧ ∀ k, k < n → f' k = v) := by
  refine ex_meth [(0, .ref a), (1, .int v)] rfl rfl rfl (fun b => Nat.le_of_ble_eq_true rfl) ?_
  refine ew_iconst (M := mJ7_fill_53178) dJ7_fill_53178_0 (v := nI 0) (by decide) ?_
  refine ew_istore_n (M := mJ7_fill_53178) dJ7_fill_53178_1 (by decide) rfl ?_
  refine ew_aload_n (M := mJ7_fill_53178) dJ7_fill_53178_2 rfl (Or.inr (Or.inl ⟨_, rfl⟩)) ?_
  refine ew_alen (M := mJ7_fill_53178) (t0 := 0) dJ7_fill_53178_3 (by repeat (first | with_reducible assumption | refine ex_eq ?_ | refine ex_ne ?_ (by omega) | exact ex_lt (by with_reducible assumption) | rw [List.length_set] | assumption)) (fun _ => rfl) ?_
  refine ew_istore_n (M := mJ7_fill_53178) dJ7_fill_53178_4 (by decide) rfl ?_
  refine ew_ls [(0, .ref a), (1, .int v), (2, .int (nI 0)), (3, .int (nI n))] ⟨rfl, rfl, rfl, rfl, trivial⟩ ?_
  have key : ∀ f0 : Nat → Int32, (∀ k, k < 0 → f0 k = v) → ex_W mJ7_fill_53178 d 0 0 (fun H' r => r = none ∧ ∃ f', H.set a (ar .int n f') = H' ∧ ∀ k, k < n → f' k = v) (H.set a (ar .int n f0)) 5 [(0, .ref a), (1, .int v), (2, .int (nI 0)), (3, .int (nI n))] [] 0 0 := by
    refine nat_down (P := fun i => ∀ f0 : Nat → Int32, (∀ k, k < i → f0 k = v) → ex_W mJ7_fill_53178 d 0 0 (fun H' r => r = none ∧ ∃ f', H.set a (ar .int n f') = H' ∧ ∀ k, k < n → f' k = v) (H.set a (ar .int n f0)) 5 [(0, .ref a), (1, .int v), (2, .int (nI i)), (3, .int (nI n))] [] 0 0) n (fun i hi k => ?_) ?_
    · intro f0 hf0
      refine ew_iload_n (M := mJ7_fill_53178) dJ7_fill_53178_5 rfl ?_
      refine ew_iload_n (M := mJ7_fill_53178) dJ7_fill_53178_6 rfl ?_
      refine ew_icmp_ge (M := mJ7_fill_53178) (tgt := 20) dJ7_fill_53178_7 rfl (fun h => absurd h (nI_ge hi hn)) (fun _ => ?_)
      refine ew_aload_n (M := mJ7_fill_53178) dJ7_fill_53178_10 rfl (Or.inr (Or.inl ⟨_, rfl⟩)) ?_
      refine ew_iload_n (M := mJ7_fill_53178) dJ7_fill_53178_11 rfl ?_
      refine ew_iload_n (M := mJ7_fill_53178) dJ7_fill_53178_12 rfl ?_
      refine ew_iast (M := mJ7_fill_53178) i dJ7_fill_53178_13 (by repeat (first | with_reducible assumption | refine ex_eq ?_ | refine ex_ne ?_ (by omega) | exact ex_lt (by with_reducible assumption) | rw [List.length_set] | assumption)) ⟨rfl, hi, hn⟩ ?_
      refine ew_iinc (M := mJ7_fill_53178) dJ7_fill_53178_14 rfl (ex_inc i) (by decide) rfl ?_
      refine ew_goto (M := mJ7_fill_53178) (tgt := 5) dJ7_fill_53178_17 rfl ?_
      rw [List.set_set]
      refine ew_ls _ ?_ (k (upd f0 i v) (fun j hj => ?_))
      · exact ⟨rfl, rfl, rfl, rfl, trivial⟩
      · by_cases e : j = i
        · subst e; simp [upd]
        · simp only [upd, if_neg e]; exact hf0 j (by omega)
    · intro f0 hf0
      refine ew_iload_n (M := mJ7_fill_53178) dJ7_fill_53178_5 rfl ?_
      refine ew_iload_n (M := mJ7_fill_53178) dJ7_fill_53178_6 rfl ?_
      refine ew_icmp_ge (M := mJ7_fill_53178) (tgt := 20) dJ7_fill_53178_7 rfl (fun _ => ?_) (fun h => absurd (nI_le (Nat.le_refl _) hn) h)
      refine ew_vret (M := mJ7_fill_53178) dJ7_fill_53178_20 rfl (Nat.le_refl _) (Nat.le_refl _) ?_
      exact ⟨rfl, f0, rfl, hf0⟩
  have h0 := key f (fun k hk => absurd hk (Nat.not_lt_zero k))
  have e0 : H.set a (ar .int n f) = H := by
    have hl := ex_lt hH
    have := (List.getElem?_eq_some_iff.mp hH).2
    rw [← this]
    exact List.set_getElem_self hl
  rw [e0] at h0
  exact h0
end
section
/-- c lo, c (lo + 1) .. together, n of them -/
def bs (c : Nat → Nat) (lo : Nat) : Nat → Nat
  | 0 => 0
  | n + 1 => bs c lo n + c (lo + n)
/-- v counts t times more -/
def ca (c : Nat → Nat) (v t : Nat) : Nat → Nat := fun u => if u = v then c u + t else c u
theorem bs_ca (c : Nat → Nat) (v t lo n : Nat) : bs (ca c v t) lo n = bs c lo n + (if lo ≤ v ∧ v < lo + n then t else 0) := by
  induction n with
  | zero => rw [if_neg (by omega)]; rfl
  | succ n ih =>
    show bs (ca c v t) lo n + ca c v t (lo + n) = bs c lo n + c (lo + n) + _
    rw [ih]
    unfold ca
    by_cases h : lo + n = v
    · rw [if_pos h, if_neg (by omega), if_pos (by omega)]; omega
    · rw [if_neg h]
      by_cases h2 : lo ≤ v ∧ v < lo + n
      · rw [if_pos h2, if_pos (by omega)]; omega
      · rw [if_neg h2, if_neg (by omega)]; omega
theorem bs_add (c : Nat → Nat) (lo a b : Nat) : bs c lo (a + b) = bs c lo a + bs c (lo + a) b := by
  induction b with
  | zero => rfl
  | succ b ih => show bs c lo (a + b) + c (lo + (a + b)) = bs c lo a + (bs c (lo + a) b + c (lo + a + b)); rw [ih, Nat.add_assoc, Nat.add_assoc lo a b]
theorem bs_mono (c : Nat → Nat) (lo : Nat) {a b : Nat} (h : a ≤ b) : bs c lo a ≤ bs c lo b := by
  obtain ⟨k, rfl⟩ := Nat.exists_eq_add_of_le h
  rw [bs_add]; omega
theorem bs_zero (lo n : Nat) : bs (fun _ => 0) lo n = 0 := by
  induction n with
  | zero => rfl
  | succ n ih => show bs _ lo n + 0 = 0; rw [ih]
theorem bs_congr {c c' : Nat → Nat} {lo n : Nat} (h : ∀ i, i < n → c (lo + i) = c' (lo + i)) : bs c lo n = bs c' lo n := by
  induction n with
  | zero => rfl
  | succ n ih => show bs c lo n + c (lo + n) = bs c' lo n + c' (lo + n); rw [ih (fun i hi => h i (by omega)), h n (by omega)]
/-- of all that is counted, rising, that with the number k -/
noncomputable def kv (c : Nat → Nat) (k : Nat) : Nat := Classical.epsilon (fun v => bs c 0 v ≤ k ∧ k < bs c 0 (v + 1))
theorem kv_eq {c : Nat → Nat} {k v : Nat} (h1 : bs c 0 v ≤ k) (h2 : k < bs c 0 (v + 1)) : kv c k = v := by
  have h := Classical.epsilon_spec (p := fun v => bs c 0 v ≤ k ∧ k < bs c 0 (v + 1)) ⟨v, h1, h2⟩
  have h3 : bs c 0 (kv c k) ≤ k ∧ k < bs c 0 (kv c k + 1) := h
  rcases Nat.lt_trichotomy (kv c k) v with e | e | e
  · have := bs_mono c 0 (show kv c k + 1 ≤ v by omega); omega
  · exact e
  · have := bs_mono c 0 (show v + 1 ≤ kv c k by omega); omega
/-- a window's cells -/
def wi_is (H : ex_H) (q : Nat) (c : Nat → Nat) : Prop := H[q]? = some (ob 8 [.int (nI (bs c 0 256)), .ref (q + 1), .ref (q + 2)]) ∧ ∃ co fi, H[q + 1]? = some (ar .int 16 co) ∧ H[q + 2]? = some (ar .int 256 fi) ∧ (∀ k, k < 16 → co k = nI (bs c (16 * k) 16)) ∧ ∀ k, k < 256 → fi k = nI (c k)
theorem wi_is.ch {H H' : ex_H} {L : List Nat} {q : Nat} {c : Nat → Nat} (hc : ex_ch H H' L) (h : wi_is H q c) (h0 : q ∉ L) (h1 : q + 1 ∉ L) (h2 : q + 2 ∉ L) : wi_is H' q c := by
  obtain ⟨a, co, fi, b, d, e⟩ := h
  exact ⟨hc.at a h0, co, fi, hc.at b h1, hc.at d h2, e⟩
theorem sp_count {d : Nat} {H : ex_H} {q v t : Nat} {c : Nat → Nat} (hq : wi_is H q c) (hv : v < 256) : ex_Met mX8_count (d + 1) 0 0 H [.ref q, .int (nI v), .int (nI t)] (fun H' r => r = none ∧ ex_ch H H' [q, q + 1, q + 2] ∧ wi_is H' q (ca c v t)) := by
  obtain ⟨hq1, co, fi, hq2, hq3, hco, hfi⟩ := id hq
  refine ex_meth [(0, .ref q), (1, .int (nI v)), (2, .int (nI t))] rfl rfl rfl (fun b => Nat.le_of_ble_eq_true rfl) ?_
  refine ew_iload_n (M := mX8_count) dX8_count_0 rfl ?_
  refine ew_iconst (M := mX8_count) dX8_count_1 (v := nI 0) (by decide) ?_
  refine ew_sipush (M := mX8_count) dX8_count_2 (v := nI 255) (by decide) ?_
  refine ew_callS (M := mX8_count) dX8_count_5 vX8_74 (sp_within_y (nI_le (Nat.zero_le v) (by omega)) (nI_le (b := 255) (by omega) (by decide))) rfl (Nat.le_of_ble_eq_true rfl) ⟨Nat.le_refl _, Nat.le_refl _⟩ rfl (fun H5 r5 q5 => ?_)
  obtain ⟨rfl, rfl⟩ := q5
  refine ew_if_eq (M := mX8_count) (tgt := 44) dX8_count_8 rfl (fun h => absurd h (by decide)) (fun _ => ?_)
  refine ew_aload_n (M := mX8_count) dX8_count_11 rfl (Or.inr (Or.inl ⟨_, rfl⟩)) ?_
  refine ew_dup (M := mX8_count) dX8_count_12 rfl ?_
  refine ew_get (M := mX8_count) dX8_count_13 fX8_9 (by repeat (first | with_reducible assumption | refine ex_eq ?_ | refine ex_ne ?_ (by omega) | exact ex_lt (by with_reducible assumption) | rw [List.length_set] | assumption)) (by rfl) ?_
  refine ew_iload_n (M := mX8_count) dX8_count_16 rfl ?_
  refine ew_iadd (M := mX8_count) dX8_count_17 ?_
  refine ew_put (M := mX8_count) dX8_count_18 fX8_9 (by repeat (first | with_reducible assumption | refine ex_eq ?_ | refine ex_ne ?_ (by omega) | exact ex_lt (by with_reducible assumption) | rw [List.length_set] | assumption)) (by exact Nat.le_of_ble_eq_true rfl) ⟨rfl, rfl, fun _ h => by cases h⟩ ?_
  refine ew_aload_n (M := mX8_count) dX8_count_21 rfl (Or.inr (Or.inl ⟨_, rfl⟩)) ?_
  refine ew_get (M := mX8_count) dX8_count_22 fX8_15 (by repeat (first | with_reducible assumption | refine ex_eq ?_ | refine ex_ne ?_ (by omega) | exact ex_lt (by with_reducible assumption) | rw [List.length_set] | assumption)) (by rfl) ?_
  refine ew_iload_n (M := mX8_count) dX8_count_25 rfl ?_
  refine ew_bipush (M := mX8_count) dX8_count_26 (v := nI 16) (by decide) ?_
  refine ew_idiv (M := mX8_count) dX8_count_28 (by decide) ?_
  refine ew_dup2 (M := mX8_count) dX8_count_29 rfl rfl ?_
  refine ew_iald (M := mX8_count) (v / 16) dX8_count_30 (by repeat (first | with_reducible assumption | refine ex_eq ?_ | refine ex_ne ?_ (by omega) | exact ex_lt (by with_reducible assumption) | rw [List.length_set] | assumption)) ⟨pk_div (by omega) (by decide) (by decide), by omega, by decide⟩ ?_
  refine ew_iload_n (M := mX8_count) dX8_count_31 rfl ?_
  refine ew_iadd (M := mX8_count) dX8_count_32 ?_
  refine ew_iast (M := mX8_count) (v / 16) dX8_count_33 (by repeat (first | with_reducible assumption | refine ex_eq ?_ | refine ex_ne ?_ (by omega) | exact ex_lt (by with_reducible assumption) | rw [List.length_set] | assumption)) ⟨pk_div (by omega) (by decide) (by decide), by omega, by decide⟩ ?_
  refine ew_aload_n (M := mX8_count) dX8_count_34 rfl (Or.inr (Or.inl ⟨_, rfl⟩)) ?_
  refine ew_get (M := mX8_count) dX8_count_35 fX8_19 (by repeat (first | with_reducible assumption | refine ex_eq ?_ | refine ex_ne ?_ (by omega) | exact ex_lt (by with_reducible assumption) | rw [List.length_set] | assumption)) (by rfl) ?_
  refine ew_iload_n (M := mX8_count) dX8_count_38 rfl ?_
  refine ew_dup2 (M := mX8_count) dX8_count_39 rfl rfl ?_
  refine ew_iald (M := mX8_count) v dX8_count_40 (by repeat (first | with_reducible assumption | refine ex_eq ?_ | refine ex_ne ?_ (by omega) | exact ex_lt (by with_reducible assumption) | rw [List.length_set] | assumption)) ⟨rfl, hv, by decide⟩ ?_
  refine ew_iload_n (M := mX8_count) dX8_count_41 rfl ?_
  refine ew_iadd (M := mX8_count) dX8_count_42 ?_
  refine ew_iast (M := mX8_count) v dX8_count_43 (by repeat (first | with_reducible assumption | refine ex_eq ?_ | refine ex_ne ?_ (by omega) | exact ex_lt (by with_reducible assumption) | rw [List.length_set] | assumption)) ⟨rfl, hv, by decide⟩ ?_
  refine ew_vret (M := mX8_count) dX8_count_44 rfl (Nat.le_refl _) (Nat.le_refl _) ?_
  have e1 : nI (bs c 0 256) + nI t = nI (bs (ca c v t) 0 256) := by rw [bs_ca, if_pos (by omega), nI_add]
  refine ⟨rfl, ((ex_ch.rf.set (by simp)).set (by simp)).set (by simp), ?_, _, _, (by repeat (first | with_reducible assumption | refine ex_eq ?_ | refine ex_ne ?_ (by omega) | exact ex_lt (by with_reducible assumption) | rw [List.length_set] | assumption)), (by repeat (first | with_reducible assumption | refine ex_eq ?_ | refine ex_ne ?_ (by omega) | exact ex_lt (by with_reducible assumption) | rw [List.length_set] | assumption)), fun k hk => ?_, fun k hk => ?_⟩
  · rw [← e1]
    exact ex_ne (ex_ne (ex_eq (ex_lt hq1)) (by omega)) (by omega)
  · by_cases e : k = v / 16
    · subst e
      simp only [upd, if_true]
      rw [hco _ hk, bs_ca, if_pos (by omega), nI_add]
    · simp only [upd, if_neg e]
      rw [hco _ hk, bs_ca, if_neg (by omega)]
      rfl
  · by_cases e : k = v
    · subst e
      simp only [upd, if_true]
      rw [hfi _ hk]
      simp only [ca, if_true, nI_add]
    · simp only [upd, if_neg e]
      rw [hfi _ hk]
      simp only [ca, if_neg e]
/-- the dot's x or y that stands for the place a less c, by the border; none -/
def sf (bo n a c : Nat) : Option Nat := if c ≤ a ∧ a < n + c then some (a - c) else if bo = 1 then some (if a < c then 0 else n - 1) else if bo = 2 then some (min (fm a c (2 * n)) (2 * n - 1 - fm a c (2 * n))) else if bo = 3 then some (fm a c n) else none
def oI : Option Nat → Int32
  | some k => nI k
  | none => -1
theorem nI_m1 {a : Nat} (h : a < 2 ^ 31) : ¬ nI a = -1 := fun e => by
  have h1 : (nI a).toInt = (-1 : Int32).toInt := by rw [e]
  rw [nI_toInt h] at h1
  have h2 : (-1 : Int32).toInt = -1 := by decide
  omega
theorem sf_lt {bo n a c k : Nat} (hn : 1 ≤ n) (h : sf bo n a c = some k) : k < n := by
  unfold sf at h
  have h2 : fm a c (2 * n) < 2 * n := Nat.mod_lt _ (by omega)
  have h3 : fm a c n < n := Nat.mod_lt _ (by omega)
  split at h
  · cases h; omega
  · split at h
    · cases h; split <;> omega
    · split at h
      · cases h; omega
      · split at h
        · cases h; exact h3
        · cases h
theorem sp_standingFor {d : Nat} {H : ex_H} {bo n a c : Nat} (ha : a < 18) (hc : c < 5) (hn : 1 ≤ n) (hn2 : n ≤ 10) (hbo : bo ≤ 4) : ex_Met mX8_standingFor (d + 1) 0 0 H [.int (nI a - nI c), .int (nI n), .int (nI bo)] (ex_r H (.int (oI (sf bo n a c)))) := by
  have e2 : nI n - nI 1 = nI (n - 1) := pk_sub hn
  refine ex_meth [(0, .int (nI a - nI c)), (1, .int (nI n)), (2, .int (nI bo))] rfl rfl rfl (fun b => Nat.le_of_ble_eq_true rfl) ?_
  by_cases hin : c ≤ a ∧ a < n + c
  · have e1 : nI a - nI c = nI (a - c) := pk_sub hin.1
    have e3 : sf bo n a c = some (a - c) := if_pos hin
    rw [e3, e1]
    refine ew_iload_n (M := mX8_standingFor) dX8_standingFor_0 rfl ?_
    refine ew_iconst (M := mX8_standingFor) dX8_standingFor_1 (v := nI 1) (by decide) ?_
    refine ew_icmp_ge (M := mX8_standingFor) (tgt := 7) dX8_standingFor_2 rfl (fun _ => ?_) (fun h => absurd (nI_le hn (by omega)) h)
    refine ew_iload_n (M := mX8_standingFor) dX8_standingFor_7 rfl ?_
    refine ew_iconst (M := mX8_standingFor) dX8_standingFor_8 (v := nI 0) (by decide) ?_
    refine ew_iload_n (M := mX8_standingFor) dX8_standingFor_9 rfl ?_
    refine ew_iconst (M := mX8_standingFor) dX8_standingFor_10 (v := nI 1) (by decide) ?_
    refine ew_isub (M := mX8_standingFor) dX8_standingFor_11 ?_
    rw [e2]
    refine ew_callS (M := mX8_standingFor) dX8_standingFor_12 vX8_74 (sp_within_y (nI_le (Nat.zero_le _) (by omega)) (nI_le (by omega) (by omega))) rfl (Nat.le_of_ble_eq_true rfl) ⟨Nat.le_refl _, Nat.le_refl _⟩ rfl (fun H12 r12 q12 => ?_)
    obtain ⟨rfl, rfl⟩ := q12
    refine ew_if_eq (M := mX8_standingFor) (tgt := 20) dX8_standingFor_15 rfl (fun h => absurd h (by decide)) (fun _ => ?_)
    refine ew_iload_n (M := mX8_standingFor) dX8_standingFor_18 rfl ?_
    refine ew_iret (M := mX8_standingFor) dX8_standingFor_19 rfl (by first | rfl | decide) (Nat.le_refl _) (Nat.le_refl _) ?_
    exact ⟨rfl, rfl⟩
  · have hw : ¬ (nI 0 ≤ nI a - nI c ∧ nI a - nI c ≤ nI (n - 1)) := by
      rintro ⟨g1, g2⟩
      rcases Nat.lt_or_ge a c with hac | hac
      · exact absurd (pk_sneg (by omega) hac) (Int32.not_lt.mpr (by rw [← nI_0]; exact g1))
      · rw [pk_sub hac, nI_leI (by omega) (by omega)] at g2
        omega
    rcases (show bo = 0 ∨ bo = 1 ∨ bo = 2 ∨ bo = 3 ∨ bo = 4 by omega) with rfl | rfl | rfl | rfl | rfl
    · have e3 : sf 0 n a c = none := by unfold sf; rw [if_neg hin]; rfl
      rw [e3]
      refine ew_iload_n (M := mX8_standingFor) dX8_standingFor_0 rfl ?_
      refine ew_iconst (M := mX8_standingFor) dX8_standingFor_1 (v := nI 1) (by decide) ?_
      refine ew_icmp_ge (M := mX8_standingFor) (tgt := 7) dX8_standingFor_2 rfl (fun _ => ?_) (fun h => absurd (nI_le hn (by omega)) h)
      refine ew_iload_n (M := mX8_standingFor) dX8_standingFor_7 rfl ?_
      refine ew_iconst (M := mX8_standingFor) dX8_standingFor_8 (v := nI 0) (by decide) ?_
      refine ew_iload_n (M := mX8_standingFor) dX8_standingFor_9 rfl ?_
      refine ew_iconst (M := mX8_standingFor) dX8_standingFor_10 (v := nI 1) (by decide) ?_
      refine ew_isub (M := mX8_standingFor) dX8_standingFor_11 ?_
      rw [e2]
      refine ew_callS (M := mX8_standingFor) dX8_standingFor_12 vX8_74 (sp_within_n hw) rfl (Nat.le_of_ble_eq_true rfl) ⟨Nat.le_refl _, Nat.le_refl _⟩ rfl (fun H12 r12 q12 => ?_)
      obtain ⟨rfl, rfl⟩ := q12
      refine ew_if_eq (M := mX8_standingFor) (tgt := 20) dX8_standingFor_15 rfl (fun _ => ?_) (fun h => absurd (by decide) h)
      refine ew_iload_n (M := mX8_standingFor) dX8_standingFor_20 rfl ?_
      refine ew_iconst (M := mX8_standingFor) dX8_standingFor_21 (v := nI 2) (by decide) ?_
      refine ew_iload_n (M := mX8_standingFor) dX8_standingFor_22 rfl ?_
      refine ew_imul (M := mX8_standingFor) dX8_standingFor_23 ?_
      rw [pk_mul]
      refine ew_callS (M := mX8_standingFor) dX8_standingFor_24 vX8_78 (sp_floorMod ha hc (by omega) (by omega)) rfl (Nat.le_of_ble_eq_true rfl) ⟨Nat.le_refl _, Nat.le_refl _⟩ rfl (fun H24 r24 q24 => ?_)
      obtain ⟨rfl, rfl⟩ := q24
      refine ew_istore_n (M := mX8_standingFor) dX8_standingFor_27 (by decide) rfl ?_
      refine ew_iload_n (M := mX8_standingFor) dX8_standingFor_28 rfl ?_
      refine ew_tableOut (M := mX8_standingFor) (tgt := 86) dX8_standingFor_29 (by decide) rfl ?_
      refine ew_iconst (M := mX8_standingFor) dX8_standingFor_86 (v := (-1)) (by decide) ?_
      refine ew_iret (M := mX8_standingFor) dX8_standingFor_87 rfl (by first | rfl | decide) (Nat.le_refl _) (Nat.le_refl _) ?_
      exact ⟨rfl, rfl⟩
    · have e3 : sf 1 n a c = some (if a < c then 0 else n - 1) := by unfold sf; rw [if_neg hin]; rfl
      rw [e3]
      refine ew_iload_n (M := mX8_standingFor) dX8_standingFor_0 rfl ?_
      refine ew_iconst (M := mX8_standingFor) dX8_standingFor_1 (v := nI 1) (by decide) ?_
      refine ew_icmp_ge (M := mX8_standingFor) (tgt := 7) dX8_standingFor_2 rfl (fun _ => ?_) (fun h => absurd (nI_le hn (by omega)) h)
      refine ew_iload_n (M := mX8_standingFor) dX8_standingFor_7 rfl ?_
      refine ew_iconst (M := mX8_standingFor) dX8_standingFor_8 (v := nI 0) (by decide) ?_
      refine ew_iload_n (M := mX8_standingFor) dX8_standingFor_9 rfl ?_
      refine ew_iconst (M := mX8_standingFor) dX8_standingFor_10 (v := nI 1) (by decide) ?_
      refine ew_isub (M := mX8_standingFor) dX8_standingFor_11 ?_
      rw [e2]
      refine ew_callS (M := mX8_standingFor) dX8_standingFor_12 vX8_74 (sp_within_n hw) rfl (Nat.le_of_ble_eq_true rfl) ⟨Nat.le_refl _, Nat.le_refl _⟩ rfl (fun H12 r12 q12 => ?_)
      obtain ⟨rfl, rfl⟩ := q12
      refine ew_if_eq (M := mX8_standingFor) (tgt := 20) dX8_standingFor_15 rfl (fun _ => ?_) (fun h => absurd (by decide) h)
      refine ew_iload_n (M := mX8_standingFor) dX8_standingFor_20 rfl ?_
      refine ew_iconst (M := mX8_standingFor) dX8_standingFor_21 (v := nI 2) (by decide) ?_
      refine ew_iload_n (M := mX8_standingFor) dX8_standingFor_22 rfl ?_
      refine ew_imul (M := mX8_standingFor) dX8_standingFor_23 ?_
      rw [pk_mul]
      refine ew_callS (M := mX8_standingFor) dX8_standingFor_24 vX8_78 (sp_floorMod ha hc (by omega) (by omega)) rfl (Nat.le_of_ble_eq_true rfl) ⟨Nat.le_refl _, Nat.le_refl _⟩ rfl (fun H24 r24 q24 => ?_)
      obtain ⟨rfl, rfl⟩ := q24
      refine ew_istore_n (M := mX8_standingFor) dX8_standingFor_27 (by decide) rfl ?_
      refine ew_iload_n (M := mX8_standingFor) dX8_standingFor_28 rfl ?_
      refine ew_tableIn (M := mX8_standingFor) (tgt := 56) (off := 27) dX8_standingFor_29 (by decide) (by decide) (by decide) rfl ?_
      refine ew_iload_n (M := mX8_standingFor) dX8_standingFor_56 rfl ?_
      refine ew_if_ge (M := mX8_standingFor) (tgt := 64) dX8_standingFor_57 rfl (fun c57 => ?_) (fun c57 => ?_)
      · rw [if_neg (fun hac => absurd (pk_sneg (by omega) hac) (Int32.not_lt.mpr c57))]
        refine ew_iload_n (M := mX8_standingFor) dX8_standingFor_64 rfl ?_
        refine ew_iconst (M := mX8_standingFor) dX8_standingFor_65 (v := nI 1) (by decide) ?_
        refine ew_isub (M := mX8_standingFor) dX8_standingFor_66 ?_
        rw [e2]
        refine ew_iret (M := mX8_standingFor) dX8_standingFor_67 rfl (by first | rfl | decide) (Nat.le_refl _) (Nat.le_refl _) ?_
        exact ⟨rfl, rfl⟩
      · rw [if_pos (Nat.not_le.mp (fun hac => c57 (by rw [pk_sub hac]; exact nI_pos' (by omega))))]
        refine ew_iconst (M := mX8_standingFor) dX8_standingFor_60 (v := nI 0) (by decide) ?_
        refine ew_goto (M := mX8_standingFor) (tgt := 67) dX8_standingFor_61 rfl ?_
        refine ew_iret (M := mX8_standingFor) dX8_standingFor_67 rfl (by first | rfl | decide) (Nat.le_refl _) (Nat.le_refl _) ?_
        exact ⟨rfl, rfl⟩
    · have e3 : sf 2 n a c = some (min (fm a c (2 * n)) (2 * n - 1 - fm a c (2 * n))) := by unfold sf; rw [if_neg hin]; rfl
      rw [e3]
      refine ew_iload_n (M := mX8_standingFor) dX8_standingFor_0 rfl ?_
      refine ew_iconst (M := mX8_standingFor) dX8_standingFor_1 (v := nI 1) (by decide) ?_
      refine ew_icmp_ge (M := mX8_standingFor) (tgt := 7) dX8_standingFor_2 rfl (fun _ => ?_) (fun h => absurd (nI_le hn (by omega)) h)
      refine ew_iload_n (M := mX8_standingFor) dX8_standingFor_7 rfl ?_
      refine ew_iconst (M := mX8_standingFor) dX8_standingFor_8 (v := nI 0) (by decide) ?_
      refine ew_iload_n (M := mX8_standingFor) dX8_standingFor_9 rfl ?_
      refine ew_iconst (M := mX8_standingFor) dX8_standingFor_10 (v := nI 1) (by decide) ?_
      refine ew_isub (M := mX8_standingFor) dX8_standingFor_11 ?_
      rw [e2]
      refine ew_callS (M := mX8_standingFor) dX8_standingFor_12 vX8_74 (sp_within_n hw) rfl (Nat.le_of_ble_eq_true rfl) ⟨Nat.le_refl _, Nat.le_refl _⟩ rfl (fun H12 r12 q12 => ?_)
      obtain ⟨rfl, rfl⟩ := q12
      refine ew_if_eq (M := mX8_standingFor) (tgt := 20) dX8_standingFor_15 rfl (fun _ => ?_) (fun h => absurd (by decide) h)
      refine ew_iload_n (M := mX8_standingFor) dX8_standingFor_20 rfl ?_
      refine ew_iconst (M := mX8_standingFor) dX8_standingFor_21 (v := nI 2) (by decide) ?_
      refine ew_iload_n (M := mX8_standingFor) dX8_standingFor_22 rfl ?_
      refine ew_imul (M := mX8_standingFor) dX8_standingFor_23 ?_
      rw [pk_mul]
      refine ew_callS (M := mX8_standingFor) dX8_standingFor_24 vX8_78 (sp_floorMod ha hc (by omega) (by omega)) rfl (Nat.le_of_ble_eq_true rfl) ⟨Nat.le_refl _, Nat.le_refl _⟩ rfl (fun H24 r24 q24 => ?_)
      obtain ⟨rfl, rfl⟩ := q24
      refine ew_istore_n (M := mX8_standingFor) dX8_standingFor_27 (by decide) rfl ?_
      refine ew_iload_n (M := mX8_standingFor) dX8_standingFor_28 rfl ?_
      refine ew_tableIn (M := mX8_standingFor) (tgt := 68) (off := 39) dX8_standingFor_29 (by decide) (by decide) (by decide) rfl ?_
      refine ew_iload_n (M := mX8_standingFor) dX8_standingFor_68 rfl ?_
      refine ew_iconst (M := mX8_standingFor) dX8_standingFor_69 (v := nI 2) (by decide) ?_
      refine ew_iload_n (M := mX8_standingFor) dX8_standingFor_70 rfl ?_
      refine ew_imul (M := mX8_standingFor) dX8_standingFor_71 ?_
      refine ew_iconst (M := mX8_standingFor) dX8_standingFor_72 (v := nI 1) (by decide) ?_
      refine ew_isub (M := mX8_standingFor) dX8_standingFor_73 ?_
      refine ew_iload_n (M := mX8_standingFor) dX8_standingFor_74 rfl ?_
      refine ew_isub (M := mX8_standingFor) dX8_standingFor_75 ?_
      rw [pk_mul, pk_sub (show 1 ≤ 2 * n by omega), pk_sub (show fm a c (2 * n) ≤ 2 * n - 1 by have : fm a c (2 * n) < 2 * n := Nat.mod_lt _ (by omega); omega)]
      refine ew_callS (M := mX8_standingFor) dX8_standingFor_76 vX8_83 (sp_min (by have : fm a c (2 * n) < 2 * n := Nat.mod_lt _ (by omega); omega) (by omega)) rfl (Nat.le_of_ble_eq_true rfl) ⟨Nat.le_refl _, Nat.le_refl _⟩ rfl (fun H76 r76 q76 => ?_)
      obtain ⟨rfl, rfl⟩ := q76
      refine ew_iret (M := mX8_standingFor) dX8_standingFor_79 rfl (by first | rfl | decide) (Nat.le_refl _) (Nat.le_refl _) ?_
      exact ⟨rfl, rfl⟩
    · have e3 : sf 3 n a c = some (fm a c n) := by unfold sf; rw [if_neg hin]; rfl
      rw [e3]
      refine ew_iload_n (M := mX8_standingFor) dX8_standingFor_0 rfl ?_
      refine ew_iconst (M := mX8_standingFor) dX8_standingFor_1 (v := nI 1) (by decide) ?_
      refine ew_icmp_ge (M := mX8_standingFor) (tgt := 7) dX8_standingFor_2 rfl (fun _ => ?_) (fun h => absurd (nI_le hn (by omega)) h)
      refine ew_iload_n (M := mX8_standingFor) dX8_standingFor_7 rfl ?_
      refine ew_iconst (M := mX8_standingFor) dX8_standingFor_8 (v := nI 0) (by decide) ?_
      refine ew_iload_n (M := mX8_standingFor) dX8_standingFor_9 rfl ?_
      refine ew_iconst (M := mX8_standingFor) dX8_standingFor_10 (v := nI 1) (by decide) ?_
      refine ew_isub (M := mX8_standingFor) dX8_standingFor_11 ?_
      rw [e2]
      refine ew_callS (M := mX8_standingFor) dX8_standingFor_12 vX8_74 (sp_within_n hw) rfl (Nat.le_of_ble_eq_true rfl) ⟨Nat.le_refl _, Nat.le_refl _⟩ rfl (fun H12 r12 q12 => ?_)
      obtain ⟨rfl, rfl⟩ := q12
      refine ew_if_eq (M := mX8_standingFor) (tgt := 20) dX8_standingFor_15 rfl (fun _ => ?_) (fun h => absurd (by decide) h)
      refine ew_iload_n (M := mX8_standingFor) dX8_standingFor_20 rfl ?_
      refine ew_iconst (M := mX8_standingFor) dX8_standingFor_21 (v := nI 2) (by decide) ?_
      refine ew_iload_n (M := mX8_standingFor) dX8_standingFor_22 rfl ?_
      refine ew_imul (M := mX8_standingFor) dX8_standingFor_23 ?_
      rw [pk_mul]
      refine ew_callS (M := mX8_standingFor) dX8_standingFor_24 vX8_78 (sp_floorMod ha hc (by omega) (by omega)) rfl (Nat.le_of_ble_eq_true rfl) ⟨Nat.le_refl _, Nat.le_refl _⟩ rfl (fun H24 r24 q24 => ?_)
      obtain ⟨rfl, rfl⟩ := q24
      refine ew_istore_n (M := mX8_standingFor) dX8_standingFor_27 (by decide) rfl ?_
      refine ew_iload_n (M := mX8_standingFor) dX8_standingFor_28 rfl ?_
      refine ew_tableIn (M := mX8_standingFor) (tgt := 80) (off := 51) dX8_standingFor_29 (by decide) (by decide) (by decide) rfl ?_
      refine ew_iload_n (M := mX8_standingFor) dX8_standingFor_80 rfl ?_
      refine ew_iload_n (M := mX8_standingFor) dX8_standingFor_81 rfl ?_
      refine ew_callS (M := mX8_standingFor) dX8_standingFor_82 vX8_78 (sp_floorMod ha hc (by omega) (by omega)) rfl (Nat.le_of_ble_eq_true rfl) ⟨Nat.le_refl _, Nat.le_refl _⟩ rfl (fun H82 r82 q82 => ?_)
      obtain ⟨rfl, rfl⟩ := q82
      refine ew_iret (M := mX8_standingFor) dX8_standingFor_85 rfl (by first | rfl | decide) (Nat.le_refl _) (Nat.le_refl _) ?_
      exact ⟨rfl, rfl⟩
    · have e3 : sf 4 n a c = none := by unfold sf; rw [if_neg hin]; rfl
      rw [e3]
      refine ew_iload_n (M := mX8_standingFor) dX8_standingFor_0 rfl ?_
      refine ew_iconst (M := mX8_standingFor) dX8_standingFor_1 (v := nI 1) (by decide) ?_
      refine ew_icmp_ge (M := mX8_standingFor) (tgt := 7) dX8_standingFor_2 rfl (fun _ => ?_) (fun h => absurd (nI_le hn (by omega)) h)
      refine ew_iload_n (M := mX8_standingFor) dX8_standingFor_7 rfl ?_
      refine ew_iconst (M := mX8_standingFor) dX8_standingFor_8 (v := nI 0) (by decide) ?_
      refine ew_iload_n (M := mX8_standingFor) dX8_standingFor_9 rfl ?_
      refine ew_iconst (M := mX8_standingFor) dX8_standingFor_10 (v := nI 1) (by decide) ?_
      refine ew_isub (M := mX8_standingFor) dX8_standingFor_11 ?_
      rw [e2]
      refine ew_callS (M := mX8_standingFor) dX8_standingFor_12 vX8_74 (sp_within_n hw) rfl (Nat.le_of_ble_eq_true rfl) ⟨Nat.le_refl _, Nat.le_refl _⟩ rfl (fun H12 r12 q12 => ?_)
      obtain ⟨rfl, rfl⟩ := q12
      refine ew_if_eq (M := mX8_standingFor) (tgt := 20) dX8_standingFor_15 rfl (fun _ => ?_) (fun h => absurd (by decide) h)
      refine ew_iload_n (M := mX8_standingFor) dX8_standingFor_20 rfl ?_
      refine ew_iconst (M := mX8_standingFor) dX8_standingFor_21 (v := nI 2) (by decide) ?_
      refine ew_iload_n (M := mX8_standingFor) dX8_standingFor_22 rfl ?_
      refine ew_imul (M := mX8_standingFor) dX8_standingFor_23 ?_
      rw [pk_mul]
      refine ew_callS (M := mX8_standingFor) dX8_standingFor_24 vX8_78 (sp_floorMod ha hc (by omega) (by omega)) rfl (Nat.le_of_ble_eq_true rfl) ⟨Nat.le_refl _, Nat.le_refl _⟩ rfl (fun H24 r24 q24 => ?_)
      obtain ⟨rfl, rfl⟩ := q24
      refine ew_istore_n (M := mX8_standingFor) dX8_standingFor_27 (by decide) rfl ?_
      refine ew_iload_n (M := mX8_standingFor) dX8_standingFor_28 rfl ?_
      refine ew_tableOut (M := mX8_standingFor) (tgt := 86) dX8_standingFor_29 (by decide) rfl ?_
      refine ew_iconst (M := mX8_standingFor) dX8_standingFor_86 (v := (-1)) (by decide) ?_
      refine ew_iret (M := mX8_standingFor) dX8_standingFor_87 rfl (by first | rfl | decide) (Nat.le_refl _) (Nat.le_refl _) ?_
      exact ⟨rfl, rfl⟩
end
section
theorem ex_inc2 (a c : Nat) : nI a - nI c + Int32.ofInt 1 = nI (a + 1) - nI c := by
  show nI a - nI c + 1 = nI (a + 1) - nI c
  rw [nI_succ, Int32.sub_eq_add_neg, Int32.sub_eq_add_neg, Int32.add_assoc, Int32.add_assoc, Int32.add_comm 1]
set_option maxRecDepth 100000 in
theorem pl_lt0 : ∀ x < 10, ∀ ac < 5, ∀ t < 10, (nI x + nI ac < nI (x + t) - nI ac) = (2 * ac < t) := by
  intro x hx ac hac t ht
  apply propext
  have h : ∀ x < 10, ∀ ac < 5, ∀ t < 10, decide (nI x + nI ac < nI (x + t) - nI ac) = decide (2 * ac < t) := by decide +kernel
  exact decide_eq_decide.mp (h x hx ac hac t ht)
theorem oI_m1 (o : Option Nat) (h : ∀ k, o = some k → k < 2 ^ 31) : oI o = -1 ↔ o = none := by
  cases o with
  | none => exact ⟨fun _ => rfl, fun _ => rfl⟩
  | some k => exact ⟨fun e => absurd e (nI_m1 (h k rfl)), fun e => by cases e⟩
/-- one place of a window: the dot in row ro, column co, or what stands for it -/
def pl (w : Nat) (g m : Nat → Nat) (bo fi : Nat) (c : Nat → Nat) (ro co : Option Nat) : Nat → Nat := match ro, co with
  | some j, some i => if m (j * w + i) = 0 then ca c (g (j * w + i)) 1 else c
  | _, _ => ca c fi (if bo = 4 then 1 else 0)
def rowc (w : Nat) (g m : Nat → Nat) (bo fi ac x : Nat) (ro : Option Nat) (c : Nat → Nat) : Nat → Nat := fl (fun t c => pl w g m bo fi c ro (sf bo w (x + t) ac)) (2 * ac + 1) c
def cnts (w h : Nat) (g m : Nat → Nat) (fi ac dn bo wt x y : Nat) : Nat → Nat :=
  if m (y * w + x) = 0 then ca (fl (fun t c => rowc w g m bo fi ac x (sf bo h (y + t) dn) c) (2 * dn + 1) (fun _ => 0)) (g (y * w + x)) (wt - 1) else fl (fun t c => rowc w g m bo fi ac x (sf bo h (y + t) dn) c) (2 * dn + 1) (fun _ => 0)
/-- a filter's object -/
def fi_is (H : ex_H) (a ac dn rk bo wt : Nat) : Prop := H[a]? = some (ob 1 [.int (nI ac), .int (nI dn), .int (nI rk), .int (nI bo), .int (nI wt)]) ∧ ac ≤ 4 ∧ dn ≤ 4 ∧ rk ≤ 100 ∧ bo ≤ 4 ∧ 1 ≤ wt ∧ wt ≤ 9
theorem sp_countRow {d : Nat} {H : ex_H} {q p a w h ac dn rk bo wt fi x : Nat} {g m c : Nat → Nat} (hq : wi_is H q c) (hp : pi_is H p w h g m) (hf : fi_is H a ac dn rk bo wt) (hfi : fi < 256) (hx : x < w) (hqp : q + 2 < p ∨ p + 2 < q) (hqa : a < q ∨ q + 2 < a) {ro : Option Nat} (hro : ∀ j, ro = some j → j < h) : ex_Met mX8_countRow (d + 2) 0 0 H [.ref q, .ref p, .ref a, .int (nI fi), .int (nI x), .int (oI ro)] (fun H' r => r = none ∧ ex_ch H H' [q, q + 1, q + 2] ∧ wi_is H' q (rowc w g m bo fi ac x ro c)) := by
  obtain ⟨hf1, hac, hdn, hrk, hbo, hwt1, hwt2⟩ := id hf
  obtain ⟨⟨hz, hgm⟩, -⟩ := id hp
  obtain ⟨hz1, hz2, hz3, hz4⟩ := id hz
  refine ex_meth [(0, .ref q), (1, .ref p), (2, .ref a), (3, .int (nI fi)), (4, .int (nI x)), (5, .int (oI ro))] rfl rfl rfl (fun b => Nat.le_of_ble_eq_true rfl) ?_
  refine ew_iload (M := mX8_countRow) dX8_countRow_0 rfl ?_
  refine ew_aload_n (M := mX8_countRow) dX8_countRow_2 rfl (Or.inr (Or.inl ⟨_, rfl⟩)) ?_
  refine ew_get (M := mX8_countRow) dX8_countRow_3 fX8_68 (by repeat (first | with_reducible assumption | refine ex_eq ?_ | refine ex_ne ?_ (by omega) | exact ex_lt (by with_reducible assumption) | rw [List.length_set] | assumption)) (by rfl) ?_
  refine ew_isub (M := mX8_countRow) dX8_countRow_6 ?_
  refine ew_istore (M := mX8_countRow) dX8_countRow_7 (by decide) rfl ?_
  refine ew_ls [(0, .ref q), (1, .ref p), (2, .ref a), (3, .int (nI fi)), (4, .int (nI x)), (5, .int (oI ro)), (6, .int (nI (x + 0) - nI ac))] ⟨rfl, rfl, rfl, rfl, rfl, rfl, rfl, trivial⟩ ?_
  refine fl_down (F := fun t c => pl w g m bo fi c ro (sf bo w (x + t) ac)) (P := fun t c => ∀ H2 : ex_H, ex_ch H H2 [q, q + 1, q + 2] → wi_is H2 q c → ex_W mX8_countRow (d + 2) 0 0 _ H2 9 [(0, .ref q), (1, .ref p), (2, .ref a), (3, .int (nI fi)), (4, .int (nI x)), (5, .int (oI ro)), (6, .int (nI (x + t) - nI ac))] [] 0 0) (2 * ac + 1) c (fun t c ht _ k => ?_) ?_ H ex_ch.rf hq
  · intro H2 hc2 hq2
    have hf2 := hc2.at hf1 (by simp; omega)
    have hp2 := hp.ch hc2 (by simp; omega) (by simp; omega) (by simp; omega)
    obtain ⟨-, gs, ms, ⟨hp21, hp22, hp23⟩, hct⟩ := id hp2
    obtain ⟨hq21, co, fn, hq22, hq23, -⟩ := id hq2
    have e10 : (nI x + nI ac < nI (x + t) - nI ac) = (2 * ac < t) := pl_lt0 x (by omega) ac (by omega) t (by omega)
    have hcol : ∀ i, sf bo w (x + t) ac = some i → i < w := fun i h => sf_lt hz1 h
    cases hr : ro with
    | none =>
      subst hr
      have hk : pl w g m bo fi c none (sf bo w (x + t) ac) = ca c fi (if bo = 4 then 1 else 0) := rfl
      rw [hk] at k
      by_cases h4 : bo = 4
      · subst h4
        rw [if_pos rfl] at k
        refine ew_iload (M := mX8_countRow) dX8_countRow_9 rfl ?_
        refine ew_iload (M := mX8_countRow) dX8_countRow_11 rfl ?_
        refine ew_aload_n (M := mX8_countRow) dX8_countRow_13 rfl (Or.inr (Or.inl ⟨_, rfl⟩)) ?_
        refine ew_get (M := mX8_countRow) dX8_countRow_14 fX8_68 (by repeat (first | with_reducible assumption | refine ex_eq ?_ | refine ex_ne ?_ (by omega) | exact ex_lt (by with_reducible assumption) | rw [List.length_set] | assumption)) (by rfl) ?_
        refine ew_iadd (M := mX8_countRow) dX8_countRow_17 ?_
        refine ew_icmp_gt (M := mX8_countRow) (tgt := 99) dX8_countRow_18 rfl (fun h => absurd h (by rw [e10]; omega)) (fun _ => ?_)
        refine ew_iload (M := mX8_countRow) dX8_countRow_21 rfl ?_
        refine ew_aload_n (M := mX8_countRow) dX8_countRow_23 rfl (Or.inr (Or.inl ⟨_, rfl⟩)) ?_
        refine ew_get (M := mX8_countRow) dX8_countRow_24 fX8_71 (by repeat (first | with_reducible assumption | refine ex_eq ?_ | refine ex_ne ?_ (by omega) | exact ex_lt (by with_reducible assumption) | rw [List.length_set] | assumption)) (by rfl) ?_
        refine ew_aload_n (M := mX8_countRow) dX8_countRow_27 rfl (Or.inr (Or.inl ⟨_, rfl⟩)) ?_
        refine ew_get (M := mX8_countRow) dX8_countRow_28 fX8_38 (by repeat (first | with_reducible assumption | refine ex_eq ?_ | refine ex_ne ?_ (by omega) | exact ex_lt (by with_reducible assumption) | rw [List.length_set] | assumption)) (by rfl) ?_
        refine ew_callS (M := mX8_countRow) dX8_countRow_31 vX8_41 (sp_standingFor (by omega) (by omega) hz1 hz2 hbo) rfl (Nat.le_of_ble_eq_true rfl) ⟨Nat.le_refl _, Nat.le_refl _⟩ rfl (fun H31 r31 q31 => ?_)
        obtain ⟨rfl, rfl⟩ := q31
        refine ew_istore (M := mX8_countRow) dX8_countRow_34 (by decide) rfl ?_
        refine ew_iload (M := mX8_countRow) dX8_countRow_36 rfl ?_
        refine ew_iconst (M := mX8_countRow) dX8_countRow_38 (v := (-1)) (by decide) ?_
        refine ew_icmp_eq (M := mX8_countRow) (tgt := 48) dX8_countRow_39 rfl (fun _ => ?_) (fun h => absurd rfl h)
        refine ew_aload_n (M := mX8_countRow) dX8_countRow_48 rfl (Or.inr (Or.inl ⟨_, rfl⟩)) ?_
        refine ew_iload_n (M := mX8_countRow) dX8_countRow_49 rfl ?_
        refine ew_aload_n (M := mX8_countRow) dX8_countRow_50 rfl (Or.inr (Or.inl ⟨_, rfl⟩)) ?_
        refine ew_get (M := mX8_countRow) dX8_countRow_51 fX8_38 (by repeat (first | with_reducible assumption | refine ex_eq ?_ | refine ex_ne ?_ (by omega) | exact ex_lt (by with_reducible assumption) | rw [List.length_set] | assumption)) (by rfl) ?_
        refine ew_iconst (M := mX8_countRow) dX8_countRow_54 (v := nI 4) (by decide) ?_
        refine ew_icmp_ne (M := mX8_countRow) (tgt := 62) dX8_countRow_55 rfl (fun h => absurd rfl h) (fun _ => ?_)
        refine ew_iconst (M := mX8_countRow) dX8_countRow_58 (v := nI 1) (by decide) ?_
        refine ew_goto (M := mX8_countRow) (tgt := 63) dX8_countRow_59 rfl ?_
        refine ew_callV (M := mX8_countRow) dX8_countRow_63 vX8_60 (by repeat (first | with_reducible assumption | refine ex_eq ?_ | refine ex_ne ?_ (by omega) | exact ex_lt (by with_reducible assumption) | rw [List.length_set] | assumption)) rfl (sp_count hq2 hfi) rfl (Nat.le_of_ble_eq_true rfl) ⟨Nat.le_refl _, Nat.le_refl _⟩ rfl (fun H63 r63 q63 => ?_)
        obtain ⟨rfl, hc3, hq3⟩ := q63
        refine ew_goto (M := mX8_countRow) (tgt := 93) dX8_countRow_66 rfl ?_
        refine ew_iinc (M := mX8_countRow) dX8_countRow_93 rfl (ex_inc2 (x + t) ac) (by decide) rfl ?_
        refine ew_goto (M := mX8_countRow) (tgt := 9) dX8_countRow_96 rfl ?_
        refine ew_ls _ ?_ (k _ (hc2.tr hc3 (by simp)) hq3)
        exact ⟨rfl, rfl, rfl, rfl, rfl, rfl, rfl, trivial⟩
      · rw [if_neg h4] at k
        refine ew_iload (M := mX8_countRow) dX8_countRow_9 rfl ?_
        refine ew_iload (M := mX8_countRow) dX8_countRow_11 rfl ?_
        refine ew_aload_n (M := mX8_countRow) dX8_countRow_13 rfl (Or.inr (Or.inl ⟨_, rfl⟩)) ?_
        refine ew_get (M := mX8_countRow) dX8_countRow_14 fX8_68 (by repeat (first | with_reducible assumption | refine ex_eq ?_ | refine ex_ne ?_ (by omega) | exact ex_lt (by with_reducible assumption) | rw [List.length_set] | assumption)) (by rfl) ?_
        refine ew_iadd (M := mX8_countRow) dX8_countRow_17 ?_
        refine ew_icmp_gt (M := mX8_countRow) (tgt := 99) dX8_countRow_18 rfl (fun h => absurd h (by rw [e10]; omega)) (fun _ => ?_)
        refine ew_iload (M := mX8_countRow) dX8_countRow_21 rfl ?_
        refine ew_aload_n (M := mX8_countRow) dX8_countRow_23 rfl (Or.inr (Or.inl ⟨_, rfl⟩)) ?_
        refine ew_get (M := mX8_countRow) dX8_countRow_24 fX8_71 (by repeat (first | with_reducible assumption | refine ex_eq ?_ | refine ex_ne ?_ (by omega) | exact ex_lt (by with_reducible assumption) | rw [List.length_set] | assumption)) (by rfl) ?_
        refine ew_aload_n (M := mX8_countRow) dX8_countRow_27 rfl (Or.inr (Or.inl ⟨_, rfl⟩)) ?_
        refine ew_get (M := mX8_countRow) dX8_countRow_28 fX8_38 (by repeat (first | with_reducible assumption | refine ex_eq ?_ | refine ex_ne ?_ (by omega) | exact ex_lt (by with_reducible assumption) | rw [List.length_set] | assumption)) (by rfl) ?_
        refine ew_callS (M := mX8_countRow) dX8_countRow_31 vX8_41 (sp_standingFor (by omega) (by omega) hz1 hz2 hbo) rfl (Nat.le_of_ble_eq_true rfl) ⟨Nat.le_refl _, Nat.le_refl _⟩ rfl (fun H31 r31 q31 => ?_)
        obtain ⟨rfl, rfl⟩ := q31
        refine ew_istore (M := mX8_countRow) dX8_countRow_34 (by decide) rfl ?_
        refine ew_iload (M := mX8_countRow) dX8_countRow_36 rfl ?_
        refine ew_iconst (M := mX8_countRow) dX8_countRow_38 (v := (-1)) (by decide) ?_
        refine ew_icmp_eq (M := mX8_countRow) (tgt := 48) dX8_countRow_39 rfl (fun _ => ?_) (fun h => absurd rfl h)
        refine ew_aload_n (M := mX8_countRow) dX8_countRow_48 rfl (Or.inr (Or.inl ⟨_, rfl⟩)) ?_
        refine ew_iload_n (M := mX8_countRow) dX8_countRow_49 rfl ?_
        refine ew_aload_n (M := mX8_countRow) dX8_countRow_50 rfl (Or.inr (Or.inl ⟨_, rfl⟩)) ?_
        refine ew_get (M := mX8_countRow) dX8_countRow_51 fX8_38 (by repeat (first | with_reducible assumption | refine ex_eq ?_ | refine ex_ne ?_ (by omega) | exact ex_lt (by with_reducible assumption) | rw [List.length_set] | assumption)) (by rfl) ?_
        refine ew_iconst (M := mX8_countRow) dX8_countRow_54 (v := nI 4) (by decide) ?_
        refine ew_icmp_ne (M := mX8_countRow) (tgt := 62) dX8_countRow_55 rfl (fun _ => ?_) (fun h => absurd h (fun e => h4 ((nI_eq (by omega) (by decide)).mp e)))
        refine ew_iconst (M := mX8_countRow) dX8_countRow_62 (v := nI 0) (by decide) ?_
        refine ew_callV (M := mX8_countRow) dX8_countRow_63 vX8_60 (by repeat (first | with_reducible assumption | refine ex_eq ?_ | refine ex_ne ?_ (by omega) | exact ex_lt (by with_reducible assumption) | rw [List.length_set] | assumption)) rfl (sp_count hq2 hfi) rfl (Nat.le_of_ble_eq_true rfl) ⟨Nat.le_refl _, Nat.le_refl _⟩ rfl (fun H63 r63 q63 => ?_)
        obtain ⟨rfl, hc3, hq3⟩ := q63
        refine ew_goto (M := mX8_countRow) (tgt := 93) dX8_countRow_66 rfl ?_
        refine ew_iinc (M := mX8_countRow) dX8_countRow_93 rfl (ex_inc2 (x + t) ac) (by decide) rfl ?_
        refine ew_goto (M := mX8_countRow) (tgt := 9) dX8_countRow_96 rfl ?_
        refine ew_ls _ ?_ (k _ (hc2.tr hc3 (by simp)) hq3)
        exact ⟨rfl, rfl, rfl, rfl, rfl, rfl, rfl, trivial⟩
    | some j =>
      subst hr
      have hj := hro j rfl
      cases hs : sf bo w (x + t) ac with
      | none =>
        have hk : pl w g m bo fi c (some j) (sf bo w (x + t) ac) = ca c fi (if bo = 4 then 1 else 0) := by rw [hs]; rfl
        rw [hk] at k
        by_cases h4 : bo = 4
        · subst h4
          rw [if_pos rfl] at k
          refine ew_iload (M := mX8_countRow) dX8_countRow_9 rfl ?_
          refine ew_iload (M := mX8_countRow) dX8_countRow_11 rfl ?_
          refine ew_aload_n (M := mX8_countRow) dX8_countRow_13 rfl (Or.inr (Or.inl ⟨_, rfl⟩)) ?_
          refine ew_get (M := mX8_countRow) dX8_countRow_14 fX8_68 (by repeat (first | with_reducible assumption | refine ex_eq ?_ | refine ex_ne ?_ (by omega) | exact ex_lt (by with_reducible assumption) | rw [List.length_set] | assumption)) (by rfl) ?_
          refine ew_iadd (M := mX8_countRow) dX8_countRow_17 ?_
          refine ew_icmp_gt (M := mX8_countRow) (tgt := 99) dX8_countRow_18 rfl (fun h => absurd h (by rw [e10]; omega)) (fun _ => ?_)
          refine ew_iload (M := mX8_countRow) dX8_countRow_21 rfl ?_
          refine ew_aload_n (M := mX8_countRow) dX8_countRow_23 rfl (Or.inr (Or.inl ⟨_, rfl⟩)) ?_
          refine ew_get (M := mX8_countRow) dX8_countRow_24 fX8_71 (by repeat (first | with_reducible assumption | refine ex_eq ?_ | refine ex_ne ?_ (by omega) | exact ex_lt (by with_reducible assumption) | rw [List.length_set] | assumption)) (by rfl) ?_
          refine ew_aload_n (M := mX8_countRow) dX8_countRow_27 rfl (Or.inr (Or.inl ⟨_, rfl⟩)) ?_
          refine ew_get (M := mX8_countRow) dX8_countRow_28 fX8_38 (by repeat (first | with_reducible assumption | refine ex_eq ?_ | refine ex_ne ?_ (by omega) | exact ex_lt (by with_reducible assumption) | rw [List.length_set] | assumption)) (by rfl) ?_
          refine ew_callS (M := mX8_countRow) dX8_countRow_31 vX8_41 (sp_standingFor (by omega) (by omega) hz1 hz2 hbo) rfl (Nat.le_of_ble_eq_true rfl) ⟨Nat.le_refl _, Nat.le_refl _⟩ rfl (fun H31 r31 q31 => ?_)
          obtain ⟨rfl, rfl⟩ := q31
          rw [hs]
          refine ew_istore (M := mX8_countRow) dX8_countRow_34 (by decide) rfl ?_
          refine ew_iload (M := mX8_countRow) dX8_countRow_36 rfl ?_
          refine ew_iconst (M := mX8_countRow) dX8_countRow_38 (v := (-1)) (by decide) ?_
          refine ew_icmp_eq (M := mX8_countRow) (tgt := 48) dX8_countRow_39 rfl (fun h => absurd h (nI_m1 (by omega))) (fun _ => ?_)
          refine ew_iload (M := mX8_countRow) dX8_countRow_42 rfl ?_
          refine ew_iconst (M := mX8_countRow) dX8_countRow_44 (v := (-1)) (by decide) ?_
          refine ew_icmp_ne (M := mX8_countRow) (tgt := 69) dX8_countRow_45 rfl (fun h => absurd rfl h) (fun _ => ?_)
          refine ew_aload_n (M := mX8_countRow) dX8_countRow_48 rfl (Or.inr (Or.inl ⟨_, rfl⟩)) ?_
          refine ew_iload_n (M := mX8_countRow) dX8_countRow_49 rfl ?_
          refine ew_aload_n (M := mX8_countRow) dX8_countRow_50 rfl (Or.inr (Or.inl ⟨_, rfl⟩)) ?_
          refine ew_get (M := mX8_countRow) dX8_countRow_51 fX8_38 (by repeat (first | with_reducible assumption | refine ex_eq ?_ | refine ex_ne ?_ (by omega) | exact ex_lt (by with_reducible assumption) | rw [List.length_set] | assumption)) (by rfl) ?_
          refine ew_iconst (M := mX8_countRow) dX8_countRow_54 (v := nI 4) (by decide) ?_
          refine ew_icmp_ne (M := mX8_countRow) (tgt := 62) dX8_countRow_55 rfl (fun h => absurd rfl h) (fun _ => ?_)
          refine ew_iconst (M := mX8_countRow) dX8_countRow_58 (v := nI 1) (by decide) ?_
          refine ew_goto (M := mX8_countRow) (tgt := 63) dX8_countRow_59 rfl ?_
          refine ew_callV (M := mX8_countRow) dX8_countRow_63 vX8_60 (by repeat (first | with_reducible assumption | refine ex_eq ?_ | refine ex_ne ?_ (by omega) | exact ex_lt (by with_reducible assumption) | rw [List.length_set] | assumption)) rfl (sp_count hq2 hfi) rfl (Nat.le_of_ble_eq_true rfl) ⟨Nat.le_refl _, Nat.le_refl _⟩ rfl (fun H63 r63 q63 => ?_)
          obtain ⟨rfl, hc3, hq3⟩ := q63
          refine ew_goto (M := mX8_countRow) (tgt := 93) dX8_countRow_66 rfl ?_
          refine ew_iinc (M := mX8_countRow) dX8_countRow_93 rfl (ex_inc2 (x + t) ac) (by decide) rfl ?_
          refine ew_goto (M := mX8_countRow) (tgt := 9) dX8_countRow_96 rfl ?_
          refine ew_ls _ ?_ (k _ (hc2.tr hc3 (by simp)) hq3)
          exact ⟨rfl, rfl, rfl, rfl, rfl, rfl, rfl, trivial⟩
        · rw [if_neg h4] at k
          refine ew_iload (M := mX8_countRow) dX8_countRow_9 rfl ?_
          refine ew_iload (M := mX8_countRow) dX8_countRow_11 rfl ?_
          refine ew_aload_n (M := mX8_countRow) dX8_countRow_13 rfl (Or.inr (Or.inl ⟨_, rfl⟩)) ?_
          refine ew_get (M := mX8_countRow) dX8_countRow_14 fX8_68 (by repeat (first | with_reducible assumption | refine ex_eq ?_ | refine ex_ne ?_ (by omega) | exact ex_lt (by with_reducible assumption) | rw [List.length_set] | assumption)) (by rfl) ?_
          refine ew_iadd (M := mX8_countRow) dX8_countRow_17 ?_
          refine ew_icmp_gt (M := mX8_countRow) (tgt := 99) dX8_countRow_18 rfl (fun h => absurd h (by rw [e10]; omega)) (fun _ => ?_)
          refine ew_iload (M := mX8_countRow) dX8_countRow_21 rfl ?_
          refine ew_aload_n (M := mX8_countRow) dX8_countRow_23 rfl (Or.inr (Or.inl ⟨_, rfl⟩)) ?_
          refine ew_get (M := mX8_countRow) dX8_countRow_24 fX8_71 (by repeat (first | with_reducible assumption | refine ex_eq ?_ | refine ex_ne ?_ (by omega) | exact ex_lt (by with_reducible assumption) | rw [List.length_set] | assumption)) (by rfl) ?_
          refine ew_aload_n (M := mX8_countRow) dX8_countRow_27 rfl (Or.inr (Or.inl ⟨_, rfl⟩)) ?_
          refine ew_get (M := mX8_countRow) dX8_countRow_28 fX8_38 (by repeat (first | with_reducible assumption | refine ex_eq ?_ | refine ex_ne ?_ (by omega) | exact ex_lt (by with_reducible assumption) | rw [List.length_set] | assumption)) (by rfl) ?_
          refine ew_callS (M := mX8_countRow) dX8_countRow_31 vX8_41 (sp_standingFor (by omega) (by omega) hz1 hz2 hbo) rfl (Nat.le_of_ble_eq_true rfl) ⟨Nat.le_refl _, Nat.le_refl _⟩ rfl (fun H31 r31 q31 => ?_)
          obtain ⟨rfl, rfl⟩ := q31
          rw [hs]
          refine ew_istore (M := mX8_countRow) dX8_countRow_34 (by decide) rfl ?_
          refine ew_iload (M := mX8_countRow) dX8_countRow_36 rfl ?_
          refine ew_iconst (M := mX8_countRow) dX8_countRow_38 (v := (-1)) (by decide) ?_
          refine ew_icmp_eq (M := mX8_countRow) (tgt := 48) dX8_countRow_39 rfl (fun h => absurd h (nI_m1 (by omega))) (fun _ => ?_)
          refine ew_iload (M := mX8_countRow) dX8_countRow_42 rfl ?_
          refine ew_iconst (M := mX8_countRow) dX8_countRow_44 (v := (-1)) (by decide) ?_
          refine ew_icmp_ne (M := mX8_countRow) (tgt := 69) dX8_countRow_45 rfl (fun h => absurd rfl h) (fun _ => ?_)
          refine ew_aload_n (M := mX8_countRow) dX8_countRow_48 rfl (Or.inr (Or.inl ⟨_, rfl⟩)) ?_
          refine ew_iload_n (M := mX8_countRow) dX8_countRow_49 rfl ?_
          refine ew_aload_n (M := mX8_countRow) dX8_countRow_50 rfl (Or.inr (Or.inl ⟨_, rfl⟩)) ?_
          refine ew_get (M := mX8_countRow) dX8_countRow_51 fX8_38 (by repeat (first | with_reducible assumption | refine ex_eq ?_ | refine ex_ne ?_ (by omega) | exact ex_lt (by with_reducible assumption) | rw [List.length_set] | assumption)) (by rfl) ?_
          refine ew_iconst (M := mX8_countRow) dX8_countRow_54 (v := nI 4) (by decide) ?_
          refine ew_icmp_ne (M := mX8_countRow) (tgt := 62) dX8_countRow_55 rfl (fun _ => ?_) (fun h => absurd h (fun e => h4 ((nI_eq (by omega) (by decide)).mp e)))
          refine ew_iconst (M := mX8_countRow) dX8_countRow_62 (v := nI 0) (by decide) ?_
          refine ew_callV (M := mX8_countRow) dX8_countRow_63 vX8_60 (by repeat (first | with_reducible assumption | refine ex_eq ?_ | refine ex_ne ?_ (by omega) | exact ex_lt (by with_reducible assumption) | rw [List.length_set] | assumption)) rfl (sp_count hq2 hfi) rfl (Nat.le_of_ble_eq_true rfl) ⟨Nat.le_refl _, Nat.le_refl _⟩ rfl (fun H63 r63 q63 => ?_)
          obtain ⟨rfl, hc3, hq3⟩ := q63
          refine ew_goto (M := mX8_countRow) (tgt := 93) dX8_countRow_66 rfl ?_
          refine ew_iinc (M := mX8_countRow) dX8_countRow_93 rfl (ex_inc2 (x + t) ac) (by decide) rfl ?_
          refine ew_goto (M := mX8_countRow) (tgt := 9) dX8_countRow_96 rfl ?_
          refine ew_ls _ ?_ (k _ (hc2.tr hc3 (by simp)) hq3)
          exact ⟨rfl, rfl, rfl, rfl, rfl, rfl, rfl, trivial⟩
      | some i =>
        have hi := hcol i hs
        have hk : pl w g m bo fi c (some j) (sf bo w (x + t) ac) = if m (j * w + i) = 0 then ca c (g (j * w + i)) 1 else c := by rw [hs]; rfl
        rw [hk] at k
        have hg2 := hgm _ (pi_lt hi hj)
        refine ew_iload (M := mX8_countRow) dX8_countRow_9 rfl ?_
        refine ew_iload (M := mX8_countRow) dX8_countRow_11 rfl ?_
        refine ew_aload_n (M := mX8_countRow) dX8_countRow_13 rfl (Or.inr (Or.inl ⟨_, rfl⟩)) ?_
        refine ew_get (M := mX8_countRow) dX8_countRow_14 fX8_68 (by repeat (first | with_reducible assumption | refine ex_eq ?_ | refine ex_ne ?_ (by omega) | exact ex_lt (by with_reducible assumption) | rw [List.length_set] | assumption)) (by rfl) ?_
        refine ew_iadd (M := mX8_countRow) dX8_countRow_17 ?_
        refine ew_icmp_gt (M := mX8_countRow) (tgt := 99) dX8_countRow_18 rfl (fun h => absurd h (by rw [e10]; omega)) (fun _ => ?_)
        refine ew_iload (M := mX8_countRow) dX8_countRow_21 rfl ?_
        refine ew_aload_n (M := mX8_countRow) dX8_countRow_23 rfl (Or.inr (Or.inl ⟨_, rfl⟩)) ?_
        refine ew_get (M := mX8_countRow) dX8_countRow_24 fX8_71 (by repeat (first | with_reducible assumption | refine ex_eq ?_ | refine ex_ne ?_ (by omega) | exact ex_lt (by with_reducible assumption) | rw [List.length_set] | assumption)) (by rfl) ?_
        refine ew_aload_n (M := mX8_countRow) dX8_countRow_27 rfl (Or.inr (Or.inl ⟨_, rfl⟩)) ?_
        refine ew_get (M := mX8_countRow) dX8_countRow_28 fX8_38 (by repeat (first | with_reducible assumption | refine ex_eq ?_ | refine ex_ne ?_ (by omega) | exact ex_lt (by with_reducible assumption) | rw [List.length_set] | assumption)) (by rfl) ?_
        refine ew_callS (M := mX8_countRow) dX8_countRow_31 vX8_41 (sp_standingFor (by omega) (by omega) hz1 hz2 hbo) rfl (Nat.le_of_ble_eq_true rfl) ⟨Nat.le_refl _, Nat.le_refl _⟩ rfl (fun H31 r31 q31 => ?_)
        obtain ⟨rfl, rfl⟩ := q31
        rw [hs]
        refine ew_istore (M := mX8_countRow) dX8_countRow_34 (by decide) rfl ?_
        refine ew_iload (M := mX8_countRow) dX8_countRow_36 rfl ?_
        refine ew_iconst (M := mX8_countRow) dX8_countRow_38 (v := (-1)) (by decide) ?_
        refine ew_icmp_eq (M := mX8_countRow) (tgt := 48) dX8_countRow_39 rfl (fun h => absurd h (nI_m1 (by omega))) (fun _ => ?_)
        refine ew_iload (M := mX8_countRow) dX8_countRow_42 rfl ?_
        refine ew_iconst (M := mX8_countRow) dX8_countRow_44 (v := (-1)) (by decide) ?_
        refine ew_icmp_ne (M := mX8_countRow) (tgt := 69) dX8_countRow_45 rfl (fun _ => ?_) (fun h => absurd h (nI_m1 (by omega)))
        refine ew_aload_n (M := mX8_countRow) dX8_countRow_69 rfl (Or.inr (Or.inl ⟨_, rfl⟩)) ?_
        refine ew_iload (M := mX8_countRow) dX8_countRow_70 rfl ?_
        refine ew_iload (M := mX8_countRow) dX8_countRow_72 rfl ?_
        refine ew_callV (M := mX8_countRow) dX8_countRow_74 vX8_49 (by repeat (first | with_reducible assumption | refine ex_eq ?_ | refine ex_ne ?_ (by omega) | exact ex_lt (by with_reducible assumption) | rw [List.length_set] | assumption)) rfl (sp_isMasked hp2 hi hj) rfl (Nat.le_of_ble_eq_true rfl) ⟨Nat.le_refl _, Nat.le_refl _⟩ rfl (fun H74 r74 q74 => ?_)
        obtain ⟨rfl, rfl⟩ := q74
        refine ew_if_ne (M := mX8_countRow) (tgt := 93) dX8_countRow_77 rfl (fun c77 => ?_) (fun c77 => ?_)
        · rw [nI_z (by omega)] at c77
          rw [if_neg c77] at k
          refine ew_iinc (M := mX8_countRow) dX8_countRow_93 rfl (ex_inc2 (x + t) ac) (by decide) rfl ?_
          refine ew_goto (M := mX8_countRow) (tgt := 9) dX8_countRow_96 rfl ?_
          first
            | (refine ew_ls _ ?_ (k _ (hc2.tr hc3 (by simp)) hq3); exact ⟨rfl, rfl, rfl, rfl, rfl, rfl, rfl, trivial⟩)
            | (refine ew_ls _ ?_ (k _ hc2 hq2); exact ⟨rfl, rfl, rfl, rfl, rfl, rfl, rfl, trivial⟩)
        · rw [nI_z (by omega)] at c77
          rw [if_pos c77] at k
          refine ew_aload_n (M := mX8_countRow) dX8_countRow_80 rfl (Or.inr (Or.inl ⟨_, rfl⟩)) ?_
          refine ew_aload_n (M := mX8_countRow) dX8_countRow_81 rfl (Or.inr (Or.inl ⟨_, rfl⟩)) ?_
          refine ew_iload (M := mX8_countRow) dX8_countRow_82 rfl ?_
          refine ew_iload (M := mX8_countRow) dX8_countRow_84 rfl ?_
          refine ew_callV (M := mX8_countRow) dX8_countRow_86 vX8_53 (by repeat (first | with_reducible assumption | refine ex_eq ?_ | refine ex_ne ?_ (by omega) | exact ex_lt (by with_reducible assumption) | rw [List.length_set] | assumption)) rfl (sp_greyOf hp2 hi hj) rfl (Nat.le_of_ble_eq_true rfl) ⟨Nat.le_refl _, Nat.le_refl _⟩ rfl (fun H86 r86 q86 => ?_)
          obtain ⟨rfl, rfl⟩ := q86
          refine ew_iconst (M := mX8_countRow) dX8_countRow_89 (v := nI 1) (by decide) ?_
          refine ew_callV (M := mX8_countRow) dX8_countRow_90 vX8_60 (by repeat (first | with_reducible assumption | refine ex_eq ?_ | refine ex_ne ?_ (by omega) | exact ex_lt (by with_reducible assumption) | rw [List.length_set] | assumption)) rfl (sp_count hq2 hg2.1) rfl (Nat.le_of_ble_eq_true rfl) ⟨Nat.le_refl _, Nat.le_refl _⟩ rfl (fun H90 r90 q90 => ?_)
          obtain ⟨rfl, hc3, hq3⟩ := q90
          refine ew_iinc (M := mX8_countRow) dX8_countRow_93 rfl (ex_inc2 (x + t) ac) (by decide) rfl ?_
          refine ew_goto (M := mX8_countRow) (tgt := 9) dX8_countRow_96 rfl ?_
          first
            | (refine ew_ls _ ?_ (k _ (hc2.tr hc3 (by simp)) hq3); exact ⟨rfl, rfl, rfl, rfl, rfl, rfl, rfl, trivial⟩)
            | (refine ew_ls _ ?_ (k _ hc2 hq2); exact ⟨rfl, rfl, rfl, rfl, rfl, rfl, rfl, trivial⟩)
  · intro H2 hc2 hq2
    have hf2 := hc2.at hf1 (by simp; omega)
    have hp2 := hp.ch hc2 (by simp; omega) (by simp; omega) (by simp; omega)
    obtain ⟨-, gs, ms, ⟨hp21, hp22, hp23⟩, hct⟩ := id hp2
    obtain ⟨hq21, co, fn, hq22, hq23, -⟩ := id hq2
    have e10 : (nI x + nI ac < nI (x + (2 * ac + 1)) - nI ac) = (2 * ac < 2 * ac + 1) := pl_lt0 x (by omega) ac (by omega) _ (by omega)
    refine ew_iload (M := mX8_countRow) dX8_countRow_9 rfl ?_
    refine ew_iload (M := mX8_countRow) dX8_countRow_11 rfl ?_
    refine ew_aload_n (M := mX8_countRow) dX8_countRow_13 rfl (Or.inr (Or.inl ⟨_, rfl⟩)) ?_
    refine ew_get (M := mX8_countRow) dX8_countRow_14 fX8_68 (by repeat (first | with_reducible assumption | refine ex_eq ?_ | refine ex_ne ?_ (by omega) | exact ex_lt (by with_reducible assumption) | rw [List.length_set] | assumption)) (by rfl) ?_
    refine ew_iadd (M := mX8_countRow) dX8_countRow_17 ?_
    refine ew_icmp_gt (M := mX8_countRow) (tgt := 99) dX8_countRow_18 rfl (fun _ => ?_) (fun h => absurd (by rw [e10]; omega) h)
    refine ew_vret (M := mX8_countRow) dX8_countRow_99 rfl (Nat.le_refl _) (Nat.le_refl _) ?_
    exact ⟨rfl, hc2, hq2⟩
theorem sp_lookAt {d : Nat} {H : ex_H} {q p a w h ac dn rk bo wt fi x y : Nat} {g m c0 : Nat → Nat} (hq : wi_is H q c0) (hp : pi_is H p w h g m) (hf : fi_is H a ac dn rk bo wt) (hfi : fi < 256) (hx : x < w) (hy : y < h) (hqp : q + 2 < p ∨ p + 2 < q) (hqa : a < q ∨ q + 2 < a) : ex_Met mX8_lookAt (d + 3) 0 0 H [.ref q, .ref p, .ref a, .int (nI fi), .int (nI x), .int (nI y)] (fun H' r => r = none ∧ ex_ch H H' [q, q + 1, q + 2] ∧ wi_is H' q (cnts w h g m fi ac dn bo wt x y)) := by
  obtain ⟨hf1, hac, hdn, hrk, hbo, hwt1, hwt2⟩ := id hf
  obtain ⟨⟨hz, hgm⟩, gs, ms, ⟨hp1, hp2, hp3⟩, -⟩ := id hp
  obtain ⟨hz1, hz2, hz3, hz4⟩ := id hz
  obtain ⟨hq1, co, fn, hq2, hq3, -⟩ := id hq
  refine ex_meth [(0, .ref q), (1, .ref p), (2, .ref a), (3, .int (nI fi)), (4, .int (nI x)), (5, .int (nI y))] rfl rfl rfl (fun b => Nat.le_of_ble_eq_true rfl) ?_
  refine ew_aload_n (M := mX8_lookAt) dX8_lookAt_0 rfl (Or.inr (Or.inl ⟨_, rfl⟩)) ?_
  refine ew_iconst (M := mX8_lookAt) dX8_lookAt_1 (v := nI 0) (by decide) ?_
  refine ew_put (M := mX8_lookAt) dX8_lookAt_2 fX8_9 (by repeat (first | with_reducible assumption | refine ex_eq ?_ | refine ex_ne ?_ (by omega) | exact ex_lt (by with_reducible assumption) | rw [List.length_set] | assumption)) (by exact Nat.le_of_ble_eq_true rfl) ⟨rfl, rfl, fun _ h => by cases h⟩ ?_
  refine ew_aload_n (M := mX8_lookAt) dX8_lookAt_5 rfl (Or.inr (Or.inl ⟨_, rfl⟩)) ?_
  refine ew_get (M := mX8_lookAt) dX8_lookAt_6 fX8_15 (by repeat (first | with_reducible assumption | refine ex_eq ?_ | refine ex_ne ?_ (by omega) | exact ex_lt (by with_reducible assumption) | rw [List.length_set] | assumption)) (by rfl) ?_
  refine ew_iconst (M := mX8_lookAt) dX8_lookAt_9 (v := nI 0) (by decide) ?_
  refine ew_callS (M := mX8_lookAt) dX8_lookAt_10 vX8_22 (sp_fill (a := q + 1) (n := 16) (f := co) (by repeat (first | with_reducible assumption | refine ex_eq ?_ | refine ex_ne ?_ (by omega) | exact ex_lt (by with_reducible assumption) | rw [List.length_set] | assumption)) (by decide)) rfl (Nat.le_of_ble_eq_true rfl) ⟨Nat.le_refl _, Nat.le_refl _⟩ rfl (fun H10 r10 q10 => ?_)
  obtain ⟨rfl, co2, rfl, hco2⟩ := q10
  refine ew_aload_n (M := mX8_lookAt) dX8_lookAt_13 rfl (Or.inr (Or.inl ⟨_, rfl⟩)) ?_
  refine ew_get (M := mX8_lookAt) dX8_lookAt_14 fX8_19 (by repeat (first | with_reducible assumption | refine ex_eq ?_ | refine ex_ne ?_ (by omega) | exact ex_lt (by with_reducible assumption) | rw [List.length_set] | assumption)) (by rfl) ?_
  refine ew_iconst (M := mX8_lookAt) dX8_lookAt_17 (v := nI 0) (by decide) ?_
  refine ew_callS (M := mX8_lookAt) dX8_lookAt_18 vX8_22 (sp_fill (a := q + 2) (n := 256) (f := fn) (by repeat (first | with_reducible assumption | refine ex_eq ?_ | refine ex_ne ?_ (by omega) | exact ex_lt (by with_reducible assumption) | rw [List.length_set] | assumption)) (by decide)) rfl (Nat.le_of_ble_eq_true rfl) ⟨Nat.le_refl _, Nat.le_refl _⟩ rfl (fun H18 r18 q18 => ?_)
  obtain ⟨rfl, fn2, rfl, hfn2⟩ := q18
  have hc1 : ex_ch H (((H.set q (ob 8 [.int (nI 0), .ref (q + 1), .ref (q + 2)])).set (q + 1) (ar .int 16 co2)).set (q + 2) (ar .int 256 fn2)) [q, q + 1, q + 2] := ((ex_ch.rf.set (by simp)).set (by simp)).set (by simp)
  have hw1 : wi_is (((H.set q (ob 8 [.int (nI 0), .ref (q + 1), .ref (q + 2)])).set (q + 1) (ar .int 16 co2)).set (q + 2) (ar .int 256 fn2)) q (fun _ => 0) := by
    refine ⟨?_, co2, fn2, (by repeat (first | with_reducible assumption | refine ex_eq ?_ | refine ex_ne ?_ (by omega) | exact ex_lt (by with_reducible assumption) | rw [List.length_set] | assumption)), (by repeat (first | with_reducible assumption | refine ex_eq ?_ | refine ex_ne ?_ (by omega) | exact ex_lt (by with_reducible assumption) | rw [List.length_set] | assumption)), fun k hk => ?_, fun k hk => ?_⟩
    · rw [bs_zero]
      exact ex_ne (ex_ne (ex_eq (ex_lt hq1)) (by omega)) (by omega)
    · rw [bs_zero]; exact hco2 k hk
    · exact hfn2 k hk
  change ex_W _ _ _ _ _ (((H.set q (ob 8 [.int (nI 0), .ref (q + 1), .ref (q + 2)])).set (q + 1) (ar .int 16 co2)).set (q + 2) (ar .int 256 fn2)) _ _ _ _ _
  generalize (((H.set q (ob 8 [.int (nI 0), .ref (q + 1), .ref (q + 2)])).set (q + 1) (ar .int 16 co2)).set (q + 2) (ar .int 256 fn2)) = H1 at hc1 hw1 ⊢
  have hf2 := hc1.at hf1 (by simp; omega)
  refine ew_iload (M := mX8_lookAt) dX8_lookAt_21 rfl ?_
  refine ew_aload_n (M := mX8_lookAt) dX8_lookAt_23 rfl (Or.inr (Or.inl ⟨_, rfl⟩)) ?_
  refine ew_get (M := mX8_lookAt) dX8_lookAt_24 fX8_28 (by repeat (first | with_reducible assumption | refine ex_eq ?_ | refine ex_ne ?_ (by omega) | exact ex_lt (by with_reducible assumption) | rw [List.length_set] | assumption)) (by rfl) ?_
  refine ew_isub (M := mX8_lookAt) dX8_lookAt_27 ?_
  refine ew_istore (M := mX8_lookAt) dX8_lookAt_28 (by decide) rfl ?_
  refine ew_ls [(0, .ref q), (1, .ref p), (2, .ref a), (3, .int (nI fi)), (4, .int (nI x)), (5, .int (nI y)), (6, .int (nI (y + 0) - nI dn))] ⟨rfl, rfl, rfl, rfl, rfl, rfl, rfl, trivial⟩ ?_
  refine fl_down (F := fun t c => rowc w g m bo fi ac x (sf bo h (y + t) dn) c) (P := fun t c => ∀ H2 : ex_H, ex_ch H H2 [q, q + 1, q + 2] → wi_is H2 q c → ex_W mX8_lookAt (d + 3) 0 0 _ H2 30 [(0, .ref q), (1, .ref p), (2, .ref a), (3, .int (nI fi)), (4, .int (nI x)), (5, .int (nI y)), (6, .int (nI (y + t) - nI dn))] [] 0 0) (2 * dn + 1) (fun _ => 0) (fun t c ht _ k => ?_) ?_ H1 hc1 hw1
  · intro H2 hc2 hq2
    have hf2 := hc2.at hf1 (by simp; omega)
    have hp2 := hp.ch hc2 (by simp; omega) (by simp; omega) (by simp; omega)
    obtain ⟨-, gs, ms, ⟨hp21, hp22, hp23⟩, hct⟩ := id hp2
    obtain ⟨hq21, co, fn, hq22, hq23, -⟩ := id hq2
    have e10 : (nI y + nI dn < nI (y + t) - nI dn) = (2 * dn < t) := pl_lt0 y (by omega) dn (by omega) t (by omega)
    refine ew_iload (M := mX8_lookAt) dX8_lookAt_30 rfl ?_
    refine ew_iload (M := mX8_lookAt) dX8_lookAt_32 rfl ?_
    refine ew_aload_n (M := mX8_lookAt) dX8_lookAt_34 rfl (Or.inr (Or.inl ⟨_, rfl⟩)) ?_
    refine ew_get (M := mX8_lookAt) dX8_lookAt_35 fX8_28 (by repeat (first | with_reducible assumption | refine ex_eq ?_ | refine ex_ne ?_ (by omega) | exact ex_lt (by with_reducible assumption) | rw [List.length_set] | assumption)) (by rfl) ?_
    refine ew_iadd (M := mX8_lookAt) dX8_lookAt_38 ?_
    refine ew_icmp_gt (M := mX8_lookAt) (tgt := 70) dX8_lookAt_39 rfl (fun h => absurd h (by rw [e10]; omega)) (fun _ => ?_)
    refine ew_aload_n (M := mX8_lookAt) dX8_lookAt_42 rfl (Or.inr (Or.inl ⟨_, rfl⟩)) ?_
    refine ew_aload_n (M := mX8_lookAt) dX8_lookAt_43 rfl (Or.inr (Or.inl ⟨_, rfl⟩)) ?_
    refine ew_aload_n (M := mX8_lookAt) dX8_lookAt_44 rfl (Or.inr (Or.inl ⟨_, rfl⟩)) ?_
    refine ew_iload_n (M := mX8_lookAt) dX8_lookAt_45 rfl ?_
    refine ew_iload (M := mX8_lookAt) dX8_lookAt_46 rfl ?_
    refine ew_iload (M := mX8_lookAt) dX8_lookAt_48 rfl ?_
    refine ew_aload_n (M := mX8_lookAt) dX8_lookAt_50 rfl (Or.inr (Or.inl ⟨_, rfl⟩)) ?_
    refine ew_get (M := mX8_lookAt) dX8_lookAt_51 fX8_33 (by repeat (first | with_reducible assumption | refine ex_eq ?_ | refine ex_ne ?_ (by omega) | exact ex_lt (by with_reducible assumption) | rw [List.length_set] | assumption)) (by rfl) ?_
    refine ew_aload_n (M := mX8_lookAt) dX8_lookAt_54 rfl (Or.inr (Or.inl ⟨_, rfl⟩)) ?_
    refine ew_get (M := mX8_lookAt) dX8_lookAt_55 fX8_38 (by repeat (first | with_reducible assumption | refine ex_eq ?_ | refine ex_ne ?_ (by omega) | exact ex_lt (by with_reducible assumption) | rw [List.length_set] | assumption)) (by rfl) ?_
    refine ew_callS (M := mX8_lookAt) dX8_lookAt_58 vX8_41 (sp_standingFor (by omega) (by omega) hz3 (by omega) hbo) rfl (Nat.le_of_ble_eq_true rfl) ⟨Nat.le_refl _, Nat.le_refl _⟩ rfl (fun H58 r58 q58 => ?_)
    obtain ⟨rfl, rfl⟩ := q58
    refine ew_callV (M := mX8_lookAt) dX8_lookAt_61 vX8_45 (by repeat (first | with_reducible assumption | refine ex_eq ?_ | refine ex_ne ?_ (by omega) | exact ex_lt (by with_reducible assumption) | rw [List.length_set] | assumption)) rfl (sp_countRow hq2 hp2 ⟨hf2, hac, hdn, hrk, hbo, hwt1, hwt2⟩ hfi hx hqp hqa (fun j hj => sf_lt hz3 hj)) rfl (Nat.le_of_ble_eq_true rfl) ⟨Nat.le_refl _, Nat.le_refl _⟩ rfl (fun H61 r61 q61 => ?_)
    obtain ⟨rfl, hc3, hq3⟩ := q61
    refine ew_iinc (M := mX8_lookAt) dX8_lookAt_64 rfl (ex_inc2 (y + t) dn) (by decide) rfl ?_
    refine ew_goto (M := mX8_lookAt) (tgt := 30) dX8_lookAt_67 rfl ?_
    refine ew_ls _ ?_ (k _ (hc2.tr hc3 (by simp)) hq3)
    exact ⟨rfl, rfl, rfl, rfl, rfl, rfl, rfl, trivial⟩
  · intro H2 hc2 hq2
    have hf2 := hc2.at hf1 (by simp; omega)
    have hp2 := hp.ch hc2 (by simp; omega) (by simp; omega) (by simp; omega)
    obtain ⟨-, gs, ms, ⟨hp21, hp22, hp23⟩, hct⟩ := id hp2
    obtain ⟨hq21, co, fn, hq22, hq23, -⟩ := id hq2
    have e10 : (nI y + nI dn < nI (y + (2 * dn + 1)) - nI dn) = (2 * dn < 2 * dn + 1) := pl_lt0 y (by omega) dn (by omega) _ (by omega)
    have hg2 := hgm _ (pi_lt hx hy)
    refine ew_iload (M := mX8_lookAt) dX8_lookAt_30 rfl ?_
    refine ew_iload (M := mX8_lookAt) dX8_lookAt_32 rfl ?_
    refine ew_aload_n (M := mX8_lookAt) dX8_lookAt_34 rfl (Or.inr (Or.inl ⟨_, rfl⟩)) ?_
    refine ew_get (M := mX8_lookAt) dX8_lookAt_35 fX8_28 (by repeat (first | with_reducible assumption | refine ex_eq ?_ | refine ex_ne ?_ (by omega) | exact ex_lt (by with_reducible assumption) | rw [List.length_set] | assumption)) (by rfl) ?_
    refine ew_iadd (M := mX8_lookAt) dX8_lookAt_38 ?_
    refine ew_icmp_gt (M := mX8_lookAt) (tgt := 70) dX8_lookAt_39 rfl (fun _ => ?_) (fun h => absurd (by rw [e10]; omega) h)
    refine ew_aload_n (M := mX8_lookAt) dX8_lookAt_70 rfl (Or.inr (Or.inl ⟨_, rfl⟩)) ?_
    refine ew_iload (M := mX8_lookAt) dX8_lookAt_71 rfl ?_
    refine ew_iload (M := mX8_lookAt) dX8_lookAt_73 rfl ?_
    refine ew_callV (M := mX8_lookAt) dX8_lookAt_75 vX8_49 (by repeat (first | with_reducible assumption | refine ex_eq ?_ | refine ex_ne ?_ (by omega) | exact ex_lt (by with_reducible assumption) | rw [List.length_set] | assumption)) rfl (sp_isMasked hp2 hx hy) rfl (Nat.le_of_ble_eq_true rfl) ⟨Nat.le_refl _, Nat.le_refl _⟩ rfl (fun H75 r75 q75 => ?_)
    obtain ⟨rfl, rfl⟩ := q75
    refine ew_if_ne (M := mX8_lookAt) (tgt := 99) dX8_lookAt_78 rfl (fun c78 => ?_) (fun c78 => ?_)
    · rw [nI_z (by omega)] at c78
      refine ew_vret (M := mX8_lookAt) dX8_lookAt_99 rfl (Nat.le_refl _) (Nat.le_refl _) ?_
      first
        | exact ⟨rfl, hc2.tr hc3 (by simp), by rw [cnts, if_pos c78]; exact hq3⟩
        | exact ⟨rfl, hc2, by rw [cnts, if_neg c78]; exact hq2⟩
    · rw [nI_z (by omega)] at c78
      refine ew_aload_n (M := mX8_lookAt) dX8_lookAt_81 rfl (Or.inr (Or.inl ⟨_, rfl⟩)) ?_
      refine ew_aload_n (M := mX8_lookAt) dX8_lookAt_82 rfl (Or.inr (Or.inl ⟨_, rfl⟩)) ?_
      refine ew_iload (M := mX8_lookAt) dX8_lookAt_83 rfl ?_
      refine ew_iload (M := mX8_lookAt) dX8_lookAt_85 rfl ?_
      refine ew_callV (M := mX8_lookAt) dX8_lookAt_87 vX8_53 (by repeat (first | with_reducible assumption | refine ex_eq ?_ | refine ex_ne ?_ (by omega) | exact ex_lt (by with_reducible assumption) | rw [List.length_set] | assumption)) rfl (sp_greyOf hp2 hx hy) rfl (Nat.le_of_ble_eq_true rfl) ⟨Nat.le_refl _, Nat.le_refl _⟩ rfl (fun H87 r87 q87 => ?_)
      obtain ⟨rfl, rfl⟩ := q87
      refine ew_aload_n (M := mX8_lookAt) dX8_lookAt_90 rfl (Or.inr (Or.inl ⟨_, rfl⟩)) ?_
      refine ew_get (M := mX8_lookAt) dX8_lookAt_91 fX8_57 (by repeat (first | with_reducible assumption | refine ex_eq ?_ | refine ex_ne ?_ (by omega) | exact ex_lt (by with_reducible assumption) | rw [List.length_set] | assumption)) (by rfl) ?_
      refine ew_iconst (M := mX8_lookAt) dX8_lookAt_94 (v := nI 1) (by decide) ?_
      refine ew_isub (M := mX8_lookAt) dX8_lookAt_95 ?_
      rw [pk_sub hwt1]
      refine ew_callV (M := mX8_lookAt) dX8_lookAt_96 vX8_60 (by repeat (first | with_reducible assumption | refine ex_eq ?_ | refine ex_ne ?_ (by omega) | exact ex_lt (by with_reducible assumption) | rw [List.length_set] | assumption)) rfl (sp_count hq2 hg2.1) rfl (Nat.le_of_ble_eq_true rfl) ⟨Nat.le_refl _, Nat.le_refl _⟩ rfl (fun H96 r96 q96 => ?_)
      obtain ⟨rfl, hc3, hq3⟩ := q96
      refine ew_vret (M := mX8_lookAt) dX8_lookAt_99 rfl (Nat.le_refl _) (Nat.le_refl _) ?_
      first
        | exact ⟨rfl, hc2.tr hc3 (by simp), by rw [cnts, if_pos c78]; exact hq3⟩
        | exact ⟨rfl, hc2, by rw [cnts, if_neg c78]; exact hq2⟩
end
section
theorem bs_one (c : Nat → Nat) {v : Nat} (hv : v < 256) : bs c 0 v + c v ≤ bs c 0 256 := by
  have h := bs_mono c 0 (show v + 1 ≤ 256 by omega)
  have e : bs c 0 (v + 1) = bs c 0 v + c (0 + v) := rfl
  rw [Nat.zero_add] at e
  omega
theorem bs_16 (c : Nat → Nat) {b : Nat} (hb : b < 16) : bs c 0 (16 * b) + bs c (16 * b) 16 = bs c 0 (16 * (b + 1)) ∧ bs c 0 (16 * (b + 1)) ≤ bs c 0 256 := by
  refine ⟨?_, bs_mono c 0 (by omega)⟩
  rw [show 16 * (b + 1) = 16 * b + 16 by omega, bs_add, Nat.zero_add]
theorem sp_ranked0 {d : Nat} {H : ex_H} {q : Nat} {x : Int32} {c : Nat → Nat} (hq : wi_is H q c) (h0 : bs c 0 256 = 0) : ex_Met mX8_ranked d 0 0 H [.ref q, .int x] (ex_r H (.int (-1))) := by
  obtain ⟨hq1, co, fi, hq2, hq3, hco, hfi⟩ := id hq
  rw [h0] at hq1
  refine ex_meth [(0, .ref q), (1, .int x)] rfl rfl rfl (fun b => Nat.le_of_ble_eq_true rfl) ?_
  refine ew_aload_n (M := mX8_ranked) dX8_ranked_0 rfl (Or.inr (Or.inl ⟨_, rfl⟩)) ?_
  refine ew_get (M := mX8_ranked) dX8_ranked_1 fX8_9 (by repeat (first | with_reducible assumption | refine ex_eq ?_ | refine ex_ne ?_ (by omega) | exact ex_lt (by with_reducible assumption) | rw [List.length_set] | assumption)) (by rfl) ?_
  refine ew_if_ne (M := mX8_ranked) (tgt := 9) dX8_ranked_4 rfl (fun h => absurd rfl h) (fun _ => ?_)
  refine ew_iconst (M := mX8_ranked) dX8_ranked_7 (v := (-1)) (by decide) ?_
  refine ew_iret (M := mX8_ranked) dX8_ranked_8 rfl (by first | rfl | decide) (Nat.le_refl _) (Nat.le_refl _) ?_
  exact ⟨rfl, rfl⟩
theorem sp_ranked {d : Nat} {H : ex_H} {q rk : Nat} {c : Nat → Nat} (hq : wi_is H q c) (hrk : rk ≤ 100) (hpos : 1 ≤ bs c 0 256) (hN : bs c 0 256 ≤ 1000) : ex_Met mX8_ranked d 0 0 H [.ref q, .int (nI rk)] (ex_r H (.int (nI (kv c (rk * (bs c 0 256 - 1) / 100))))) := by
  obtain ⟨hq1, co, fi, hq2, hq3, hco, hfi⟩ := id hq
  have hm : rk * (bs c 0 256 - 1) ≤ 100 * (bs c 0 256 - 1) := Nat.mul_le_mul_right _ hrk
  have hk : rk * (bs c 0 256 - 1) / 100 < bs c 0 256 := by omega
  refine ex_meth [(0, .ref q), (1, .int (nI rk))] rfl rfl rfl (fun b => Nat.le_of_ble_eq_true rfl) ?_
  refine ew_aload_n (M := mX8_ranked) dX8_ranked_0 rfl (Or.inr (Or.inl ⟨_, rfl⟩)) ?_
  refine ew_get (M := mX8_ranked) dX8_ranked_1 fX8_9 (by repeat (first | with_reducible assumption | refine ex_eq ?_ | refine ex_ne ?_ (by omega) | exact ex_lt (by with_reducible assumption) | rw [List.length_set] | assumption)) (by rfl) ?_
  refine ew_if_ne (M := mX8_ranked) (tgt := 9) dX8_ranked_4 rfl (fun _ => ?_) (fun h => absurd h (nI_n0 hpos (by omega)))
  refine ew_iload_n (M := mX8_ranked) dX8_ranked_9 rfl ?_
  refine ew_aload_n (M := mX8_ranked) dX8_ranked_10 rfl (Or.inr (Or.inl ⟨_, rfl⟩)) ?_
  refine ew_get (M := mX8_ranked) dX8_ranked_11 fX8_9 (by repeat (first | with_reducible assumption | refine ex_eq ?_ | refine ex_ne ?_ (by omega) | exact ex_lt (by with_reducible assumption) | rw [List.length_set] | assumption)) (by rfl) ?_
  refine ew_iconst (M := mX8_ranked) dX8_ranked_14 (v := nI 1) (by decide) ?_
  refine ew_isub (M := mX8_ranked) dX8_ranked_15 ?_
  rw [pk_sub hpos]
  refine ew_imul (M := mX8_ranked) dX8_ranked_16 ?_
  rw [pk_mul]
  refine ew_bipush (M := mX8_ranked) dX8_ranked_17 (v := nI 100) (by decide) ?_
  refine ew_idiv (M := mX8_ranked) dX8_ranked_19 (by decide) ?_
  rw [pk_div (by omega) (by decide) (by decide)]
  generalize rk * (bs c 0 256 - 1) / 100 = k at hk ⊢
  refine ew_istore_n (M := mX8_ranked) dX8_ranked_20 (by decide) rfl ?_
  refine ew_iconst (M := mX8_ranked) dX8_ranked_21 (v := nI 0) (by decide) ?_
  refine ew_istore_n (M := mX8_ranked) dX8_ranked_22 (by decide) rfl ?_
  have key2 : ∀ n v, v + n = 255 → bs c 0 v ≤ k → ex_W mX8_ranked d 0 0 (ex_r H (.int (nI (kv c k)))) H 60 [(0, .ref q), (2, .int (nI (k - bs c 0 v))), (4, .int (nI v))] [] 0 0 := by
    intro n
    induction n with
    | zero =>
      intro v hv hb
      obtain rfl : v = 255 := hv
      refine ew_iload (M := mX8_ranked) dX8_ranked_60 rfl ?_
      refine ew_sipush (M := mX8_ranked) dX8_ranked_62 (v := nI 255) (by decide) ?_
      refine ew_icmp_ge (M := mX8_ranked) (tgt := 95) dX8_ranked_65 rfl (fun _ => ?_) (fun h => absurd (nI_le (Nat.le_refl _) (by decide)) h)
      refine ew_iload (M := mX8_ranked) dX8_ranked_95 rfl ?_
      refine ew_iret (M := mX8_ranked) dX8_ranked_97 rfl (by first | rfl | decide) (Nat.le_refl _) (Nat.le_refl _) ?_
      exact ⟨rfl, by rw [kv_eq hb hk]⟩
    | succ n ih =>
      intro v hv hb
      have hv2 : v < 256 := by omega
      have h1 := bs_one c hv2
      have e1 : bs c 0 (v + 1) = bs c 0 v + c v := by show bs c 0 v + c (0 + v) = _; rw [Nat.zero_add]
      refine ew_iload (M := mX8_ranked) dX8_ranked_60 rfl ?_
      refine ew_sipush (M := mX8_ranked) dX8_ranked_62 (v := nI 255) (by decide) ?_
      refine ew_icmp_ge (M := mX8_ranked) (tgt := 95) dX8_ranked_65 rfl (fun h => absurd h (nI_ge (by omega) (by decide))) (fun _ => ?_)
      refine ew_iload_n (M := mX8_ranked) dX8_ranked_68 rfl ?_
      refine ew_aload_n (M := mX8_ranked) dX8_ranked_69 rfl (Or.inr (Or.inl ⟨_, rfl⟩)) ?_
      refine ew_get (M := mX8_ranked) dX8_ranked_70 fX8_19 (by repeat (first | with_reducible assumption | refine ex_eq ?_ | refine ex_ne ?_ (by omega) | exact ex_lt (by with_reducible assumption) | rw [List.length_set] | assumption)) (by rfl) ?_
      refine ew_iload (M := mX8_ranked) dX8_ranked_73 rfl ?_
      refine ew_iald (M := mX8_ranked) v dX8_ranked_75 (by repeat (first | with_reducible assumption | refine ex_eq ?_ | refine ex_ne ?_ (by omega) | exact ex_lt (by with_reducible assumption) | rw [List.length_set] | assumption)) ⟨rfl, hv2, by decide⟩ ?_
      refine ew_icmp_lt (M := mX8_ranked) (tgt := 95) dX8_ranked_76 rfl (fun c76 => ?_) (fun c76 => ?_)
      · rw [hfi v hv2, nI_ltI (by omega) (by omega)] at c76
        refine ew_iload (M := mX8_ranked) dX8_ranked_95 rfl ?_
        refine ew_iret (M := mX8_ranked) dX8_ranked_97 rfl (by first | rfl | decide) (Nat.le_refl _) (Nat.le_refl _) ?_
        exact ⟨rfl, by rw [kv_eq hb (by omega)]⟩
      · rw [hfi v hv2, nI_ltI (by omega) (by omega)] at c76
        refine ew_iload_n (M := mX8_ranked) dX8_ranked_79 rfl ?_
        refine ew_aload_n (M := mX8_ranked) dX8_ranked_80 rfl (Or.inr (Or.inl ⟨_, rfl⟩)) ?_
        refine ew_get (M := mX8_ranked) dX8_ranked_81 fX8_19 (by repeat (first | with_reducible assumption | refine ex_eq ?_ | refine ex_ne ?_ (by omega) | exact ex_lt (by with_reducible assumption) | rw [List.length_set] | assumption)) (by rfl) ?_
        refine ew_iload (M := mX8_ranked) dX8_ranked_84 rfl ?_
        refine ew_iald (M := mX8_ranked) v dX8_ranked_86 (by repeat (first | with_reducible assumption | refine ex_eq ?_ | refine ex_ne ?_ (by omega) | exact ex_lt (by with_reducible assumption) | rw [List.length_set] | assumption)) ⟨rfl, hv2, by decide⟩ ?_
        refine ew_isub (M := mX8_ranked) dX8_ranked_87 ?_
        rw [hfi v hv2, pk_sub (by omega), show k - bs c 0 v - c v = k - bs c 0 (v + 1) by omega]
        refine ew_istore_n (M := mX8_ranked) dX8_ranked_88 (by decide) rfl ?_
        refine ew_iinc (M := mX8_ranked) dX8_ranked_89 rfl (ex_inc v) (by decide) rfl ?_
        refine ew_goto (M := mX8_ranked) (tgt := 60) dX8_ranked_92 rfl ?_
        refine ew_ls _ ?_ (ih (v + 1) (by omega) (by omega))
        exact ⟨rfl, rfl, rfl, trivial⟩
  have key1 : ∀ n b, b + n = 15 → bs c 0 (16 * b) ≤ k → ex_W mX8_ranked d 0 0 (ex_r H (.int (nI (kv c k)))) H 23 [(0, .ref q), (2, .int (nI (k - bs c 0 (16 * b)))), (3, .int (nI b))] [] 0 0 := by
    intro n
    induction n with
    | zero =>
      intro b hb hk2
      obtain rfl : b = 15 := hb
      refine ew_iload_n (M := mX8_ranked) dX8_ranked_23 rfl ?_
      refine ew_bipush (M := mX8_ranked) dX8_ranked_24 (v := nI 15) (by decide) ?_
      refine ew_icmp_ge (M := mX8_ranked) (tgt := 54) dX8_ranked_26 rfl (fun _ => ?_) (fun h => absurd (nI_le (Nat.le_refl _) (by decide)) h)
      refine ew_iload_n (M := mX8_ranked) dX8_ranked_54 rfl ?_
      refine ew_bipush (M := mX8_ranked) dX8_ranked_55 (v := nI 16) (by decide) ?_
      refine ew_imul (M := mX8_ranked) dX8_ranked_57 ?_
      rw [pk_mul]
      refine ew_istore (M := mX8_ranked) dX8_ranked_58 (by decide) rfl ?_
      refine ew_ls _ ?_ (key2 15 240 (by omega) hk2)
      exact ⟨rfl, rfl, rfl, trivial⟩
    | succ n ih =>
      intro b hb hk2
      have hb2 : b < 16 := by omega
      obtain ⟨h1, h2⟩ := bs_16 c hb2
      refine ew_iload_n (M := mX8_ranked) dX8_ranked_23 rfl ?_
      refine ew_bipush (M := mX8_ranked) dX8_ranked_24 (v := nI 15) (by decide) ?_
      refine ew_icmp_ge (M := mX8_ranked) (tgt := 54) dX8_ranked_26 rfl (fun h => absurd h (nI_ge (by omega) (by decide))) (fun _ => ?_)
      refine ew_iload_n (M := mX8_ranked) dX8_ranked_29 rfl ?_
      refine ew_aload_n (M := mX8_ranked) dX8_ranked_30 rfl (Or.inr (Or.inl ⟨_, rfl⟩)) ?_
      refine ew_get (M := mX8_ranked) dX8_ranked_31 fX8_15 (by repeat (first | with_reducible assumption | refine ex_eq ?_ | refine ex_ne ?_ (by omega) | exact ex_lt (by with_reducible assumption) | rw [List.length_set] | assumption)) (by rfl) ?_
      refine ew_iload_n (M := mX8_ranked) dX8_ranked_34 rfl ?_
      refine ew_iald (M := mX8_ranked) b dX8_ranked_35 (by repeat (first | with_reducible assumption | refine ex_eq ?_ | refine ex_ne ?_ (by omega) | exact ex_lt (by with_reducible assumption) | rw [List.length_set] | assumption)) ⟨rfl, hb2, by decide⟩ ?_
      refine ew_icmp_lt (M := mX8_ranked) (tgt := 54) dX8_ranked_36 rfl (fun c36 => ?_) (fun c36 => ?_)
      · rw [hco b hb2, nI_ltI (by omega) (by omega)] at c36
        refine ew_iload_n (M := mX8_ranked) dX8_ranked_54 rfl ?_
        refine ew_bipush (M := mX8_ranked) dX8_ranked_55 (v := nI 16) (by decide) ?_
        refine ew_imul (M := mX8_ranked) dX8_ranked_57 ?_
        rw [pk_mul, show b * 16 = 16 * b by omega]
        refine ew_istore (M := mX8_ranked) dX8_ranked_58 (by decide) rfl ?_
        refine ew_ls _ ?_ (key2 (255 - 16 * b) (16 * b) (by omega) hk2)
        exact ⟨rfl, rfl, rfl, trivial⟩
      · rw [hco b hb2, nI_ltI (by omega) (by omega)] at c36
        refine ew_iload_n (M := mX8_ranked) dX8_ranked_39 rfl ?_
        refine ew_aload_n (M := mX8_ranked) dX8_ranked_40 rfl (Or.inr (Or.inl ⟨_, rfl⟩)) ?_
        refine ew_get (M := mX8_ranked) dX8_ranked_41 fX8_15 (by repeat (first | with_reducible assumption | refine ex_eq ?_ | refine ex_ne ?_ (by omega) | exact ex_lt (by with_reducible assumption) | rw [List.length_set] | assumption)) (by rfl) ?_
        refine ew_iload_n (M := mX8_ranked) dX8_ranked_44 rfl ?_
        refine ew_iald (M := mX8_ranked) b dX8_ranked_45 (by repeat (first | with_reducible assumption | refine ex_eq ?_ | refine ex_ne ?_ (by omega) | exact ex_lt (by with_reducible assumption) | rw [List.length_set] | assumption)) ⟨rfl, hb2, by decide⟩ ?_
        refine ew_isub (M := mX8_ranked) dX8_ranked_46 ?_
        rw [hco b hb2, pk_sub (by omega), show k - bs c 0 (16 * b) - bs c (16 * b) 16 = k - bs c 0 (16 * (b + 1)) by omega]
        refine ew_istore_n (M := mX8_ranked) dX8_ranked_47 (by decide) rfl ?_
        refine ew_iinc (M := mX8_ranked) dX8_ranked_48 rfl (ex_inc b) (by decide) rfl ?_
        refine ew_goto (M := mX8_ranked) (tgt := 23) dX8_ranked_51 rfl ?_
        refine ew_ls _ ?_ (ih (b + 1) (by omega) (by omega))
        exact ⟨rfl, rfl, rfl, trivial⟩
  refine ew_ls _ ?_ (key1 15 0 rfl (Nat.zero_le k))
  exact ⟨rfl, rfl, rfl, trivial⟩
theorem sp_countedBelow {d : Nat} {H : ex_H} {q v : Nat} {c : Nat → Nat} (hq : wi_is H q c) (hv : v < 256) : ex_Met mX8_countedBelow d 0 0 H [.ref q, .int (nI v)] (ex_r H (.int (nI (bs c 0 v)))) := by
  obtain ⟨hq1, co, fi, hq2, hq3, hco, hfi⟩ := id hq
  refine ex_meth [(0, .ref q), (1, .int (nI v))] rfl rfl rfl (fun b => Nat.le_of_ble_eq_true rfl) ?_
  refine ew_iconst (M := mX8_countedBelow) dX8_countedBelow_0 (v := nI 0) (by decide) ?_
  refine ew_istore_n (M := mX8_countedBelow) dX8_countedBelow_1 (by decide) rfl ?_
  refine ew_iconst (M := mX8_countedBelow) dX8_countedBelow_2 (v := nI 0) (by decide) ?_
  refine ew_istore_n (M := mX8_countedBelow) dX8_countedBelow_3 (by decide) rfl ?_
  refine ew_ls [(0, .ref q), (1, .int (nI v)), (2, .int (nI (bs c 0 0))), (3, .int (nI 0))] ⟨rfl, rfl, rfl, rfl, trivial⟩ ?_
  refine nat_down (P := fun i => ex_W mX8_countedBelow d 0 0 _ H 4 [(0, .ref q), (1, .int (nI v)), (2, .int (nI (bs c 0 i))), (3, .int (nI i))] [] 0 0) v (fun i hi k => ?_) ?_
  · refine ew_iload_n (M := mX8_countedBelow) dX8_countedBelow_4 rfl ?_
    refine ew_iload_n (M := mX8_countedBelow) dX8_countedBelow_5 rfl ?_
    refine ew_icmp_ge (M := mX8_countedBelow) (tgt := 31) dX8_countedBelow_6 rfl (fun h => absurd h (nI_ge hi (by omega))) (fun _ => ?_)
    refine ew_iload_n (M := mX8_countedBelow) dX8_countedBelow_9 rfl ?_
    refine ew_sipush (M := mX8_countedBelow) dX8_countedBelow_10 (v := nI 256) (by decide) ?_
    refine ew_icmp_ge (M := mX8_countedBelow) (tgt := 31) dX8_countedBelow_13 rfl (fun h => absurd h (nI_ge (by omega) (by decide))) (fun _ => ?_)
    refine ew_iload_n (M := mX8_countedBelow) dX8_countedBelow_16 rfl ?_
    refine ew_aload_n (M := mX8_countedBelow) dX8_countedBelow_17 rfl (Or.inr (Or.inl ⟨_, rfl⟩)) ?_
    refine ew_get (M := mX8_countedBelow) dX8_countedBelow_18 fX8_19 (by repeat (first | with_reducible assumption | refine ex_eq ?_ | refine ex_ne ?_ (by omega) | exact ex_lt (by with_reducible assumption) | rw [List.length_set] | assumption)) (by rfl) ?_
    refine ew_iload_n (M := mX8_countedBelow) dX8_countedBelow_21 rfl ?_
    refine ew_iald (M := mX8_countedBelow) i dX8_countedBelow_22 (by repeat (first | with_reducible assumption | refine ex_eq ?_ | refine ex_ne ?_ (by omega) | exact ex_lt (by with_reducible assumption) | rw [List.length_set] | assumption)) ⟨rfl, by omega, by decide⟩ ?_
    refine ew_iadd (M := mX8_countedBelow) dX8_countedBelow_23 ?_
    rw [hfi i (by omega), nI_add]
    refine ew_istore_n (M := mX8_countedBelow) dX8_countedBelow_24 (by decide) rfl ?_
    refine ew_iinc (M := mX8_countedBelow) dX8_countedBelow_25 rfl (ex_inc i) (by decide) rfl ?_
    refine ew_goto (M := mX8_countedBelow) (tgt := 4) dX8_countedBelow_28 rfl ?_
    refine ew_ls _ ?_ k
    exact ⟨rfl, rfl, by show some (Value.int (nI (bs c 0 i + c i))) = some (.int (nI (bs c 0 i + c (0 + i)))); rw [Nat.zero_add], rfl, trivial⟩
  · refine ew_iload_n (M := mX8_countedBelow) dX8_countedBelow_4 rfl ?_
    refine ew_iload_n (M := mX8_countedBelow) dX8_countedBelow_5 rfl ?_
    refine ew_icmp_ge (M := mX8_countedBelow) (tgt := 31) dX8_countedBelow_6 rfl (fun _ => ?_) (fun h => absurd (nI_le (Nat.le_refl _) (by omega)) h)
    refine ew_iload_n (M := mX8_countedBelow) dX8_countedBelow_31 rfl ?_
    refine ew_iret (M := mX8_countedBelow) dX8_countedBelow_32 rfl (by first | rfl | decide) (Nat.le_refl _) (Nat.le_refl _) ?_
    exact ⟨rfl, rfl⟩
theorem sp_spread0 {d : Nat} {H : ex_H} {q : Nat} {c : Nat → Nat} (hq : wi_is H q c) (h0 : bs c 0 256 = 0) : ex_Met mX8_spread d 0 0 H [.ref q] (ex_r H (.int (-1))) := by
  obtain ⟨hq1, co, fi, hq2, hq3, hco, hfi⟩ := id hq
  rw [h0] at hq1
  refine ex_meth [(0, .ref q)] rfl rfl rfl (fun b => Nat.le_of_ble_eq_true rfl) ?_
  refine ew_aload_n (M := mX8_spread) dX8_spread_0 rfl (Or.inr (Or.inl ⟨_, rfl⟩)) ?_
  refine ew_get (M := mX8_spread) dX8_spread_1 fX8_9 (by repeat (first | with_reducible assumption | refine ex_eq ?_ | refine ex_ne ?_ (by omega) | exact ex_lt (by with_reducible assumption) | rw [List.length_set] | assumption)) (by rfl) ?_
  refine ew_if_ne (M := mX8_spread) (tgt := 11) dX8_spread_4 rfl (fun h => absurd rfl h) (fun _ => ?_)
  refine ew_iconst (M := mX8_spread) dX8_spread_7 (v := (-1)) (by decide) ?_
  refine ew_goto (M := mX8_spread) (tgt := 23) dX8_spread_8 rfl ?_
  refine ew_iret (M := mX8_spread) dX8_spread_23 rfl (by first | rfl | decide) (Nat.le_refl _) (Nat.le_refl _) ?_
  exact ⟨rfl, rfl⟩
theorem sp_spread {d : Nat} {H : ex_H} {q : Nat} {c : Nat → Nat} (hq : wi_is H q c) (hpos : 1 ≤ bs c 0 256) (hN : bs c 0 256 ≤ 1000) : ex_Met mX8_spread (d + 1) 0 0 H [.ref q] (ex_r H (.int (nI (kv c (bs c 0 256 - 1)) - nI (kv c 0)))) := by
  obtain ⟨hq1, co, fi, hq2, hq3, hco, hfi⟩ := id hq
  refine ex_meth [(0, .ref q)] rfl rfl rfl (fun b => Nat.le_of_ble_eq_true rfl) ?_
  refine ew_aload_n (M := mX8_spread) dX8_spread_0 rfl (Or.inr (Or.inl ⟨_, rfl⟩)) ?_
  refine ew_get (M := mX8_spread) dX8_spread_1 fX8_9 (by repeat (first | with_reducible assumption | refine ex_eq ?_ | refine ex_ne ?_ (by omega) | exact ex_lt (by with_reducible assumption) | rw [List.length_set] | assumption)) (by rfl) ?_
  refine ew_if_ne (M := mX8_spread) (tgt := 11) dX8_spread_4 rfl (fun _ => ?_) (fun h => absurd h (nI_n0 hpos (by omega)))
  refine ew_aload_n (M := mX8_spread) dX8_spread_11 rfl (Or.inr (Or.inl ⟨_, rfl⟩)) ?_
  refine ew_bipush (M := mX8_spread) dX8_spread_12 (v := nI 100) (by decide) ?_
  refine ew_callV (M := mX8_spread) dX8_spread_14 vX8_64 (by repeat (first | with_reducible assumption | refine ex_eq ?_ | refine ex_ne ?_ (by omega) | exact ex_lt (by with_reducible assumption) | rw [List.length_set] | assumption)) rfl (sp_ranked hq (Nat.le_refl 100) hpos hN) rfl (Nat.le_of_ble_eq_true rfl) ⟨Nat.le_refl _, Nat.le_refl _⟩ rfl (fun H14 r14 q14 => ?_)
  obtain ⟨rfl, rfl⟩ := q14
  refine ew_aload_n (M := mX8_spread) dX8_spread_17 rfl (Or.inr (Or.inl ⟨_, rfl⟩)) ?_
  refine ew_iconst (M := mX8_spread) dX8_spread_18 (v := nI 0) (by decide) ?_
  refine ew_callV (M := mX8_spread) dX8_spread_19 vX8_64 (by repeat (first | with_reducible assumption | refine ex_eq ?_ | refine ex_ne ?_ (by omega) | exact ex_lt (by with_reducible assumption) | rw [List.length_set] | assumption)) rfl (sp_ranked hq (Nat.zero_le 100) hpos hN) rfl (Nat.le_of_ble_eq_true rfl) ⟨Nat.le_refl _, Nat.le_refl _⟩ rfl (fun H19 r19 q19 => ?_)
  obtain ⟨rfl, rfl⟩ := q19
  refine ew_isub (M := mX8_spread) dX8_spread_22 ?_
  refine ew_iret (M := mX8_spread) dX8_spread_23 rfl (by first | rfl | decide) (Nat.le_refl _) (Nat.le_refl _) ?_
  exact ⟨rfl, by rw [Nat.mul_div_cancel_left _ (by decide), Nat.zero_mul, Nat.zero_div]⟩
end
section
/-- the sign that a letter is: 0 .. 15 a figure, 16 a dash -/
def sg (x : Nat) : Option Nat := if 48 ≤ x ∧ x ≤ 57 then some (x - 48) else if 97 ≤ x ∧ x ≤ 102 then some (x - 97 + 10) else if x = 45 then some 16 else none
theorem sg_le {x s : Nat} (h : sg x = some s) : s ≤ 16 := by
  unfold sg at h
  split at h
  · cases h; omega
  · split at h
    · cases h; omega
    · split at h
      · cases h; omega
      · cases h
theorem sp_signOf {d : Nat} {H : ex_H} {x : Nat} (hx : x < 256) : ex_Met mX5_signOf (d + 1) 0 0 H [.int (nI x)] (ex_r H (.int (oI (sg x)))) := by
  unfold sg
  refine ex_meth [(0, .int (nI x))] rfl rfl rfl (fun b => Nat.le_of_ble_eq_true rfl) ?_
  by_cases h1 : 48 ≤ x ∧ x ≤ 57
  · rw [if_pos h1]
    refine ew_iload_n (M := mX5_signOf) dX5_signOf_0 rfl ?_
    refine ew_bipush (M := mX5_signOf) dX5_signOf_1 (v := nI 48) (by decide) ?_
    refine ew_bipush (M := mX5_signOf) dX5_signOf_3 (v := nI 57) (by decide) ?_
    refine ew_callS (M := mX5_signOf) dX5_signOf_5 vX5_55 (sp_within_y (nI_le h1.1 (by omega)) (nI_le h1.2 (by omega))) rfl (Nat.le_of_ble_eq_true rfl) ⟨Nat.le_refl _, Nat.le_refl _⟩ rfl (fun H5 r5 q5 => ?_)
    obtain ⟨rfl, rfl⟩ := q5
    refine ew_if_eq (M := mX5_signOf) (tgt := 16) dX5_signOf_8 rfl (fun h => absurd h (by decide)) (fun _ => ?_)
    refine ew_iload_n (M := mX5_signOf) dX5_signOf_11 rfl ?_
    refine ew_bipush (M := mX5_signOf) dX5_signOf_12 (v := nI 48) (by decide) ?_
    refine ew_isub (M := mX5_signOf) dX5_signOf_14 ?_
    refine ew_iret (M := mX5_signOf) dX5_signOf_15 rfl (by first | rfl | decide) (Nat.le_refl _) (Nat.le_refl _) ?_
    exact ⟨rfl, by rw [pk_sub h1.1]; rfl⟩
  · rw [if_neg h1]
    by_cases h2 : 97 ≤ x ∧ x ≤ 102
    · rw [if_pos h2]
      refine ew_iload_n (M := mX5_signOf) dX5_signOf_0 rfl ?_
      refine ew_bipush (M := mX5_signOf) dX5_signOf_1 (v := nI 48) (by decide) ?_
      refine ew_bipush (M := mX5_signOf) dX5_signOf_3 (v := nI 57) (by decide) ?_
      refine ew_callS (M := mX5_signOf) dX5_signOf_5 vX5_55 (sp_within_n (fun e => h1 ⟨(nI_leI (by omega) (by omega)).mp e.1, (nI_leI (by omega) (by omega)).mp e.2⟩)) rfl (Nat.le_of_ble_eq_true rfl) ⟨Nat.le_refl _, Nat.le_refl _⟩ rfl (fun H5 r5 q5 => ?_)
      obtain ⟨rfl, rfl⟩ := q5
      refine ew_if_eq (M := mX5_signOf) (tgt := 16) dX5_signOf_8 rfl (fun _ => ?_) (fun h => absurd (by decide) h)
      refine ew_iload_n (M := mX5_signOf) dX5_signOf_16 rfl ?_
      refine ew_bipush (M := mX5_signOf) dX5_signOf_17 (v := nI 97) (by decide) ?_
      refine ew_bipush (M := mX5_signOf) dX5_signOf_19 (v := nI 102) (by decide) ?_
      refine ew_callS (M := mX5_signOf) dX5_signOf_21 vX5_55 (sp_within_y (nI_le h2.1 (by omega)) (nI_le h2.2 (by omega))) rfl (Nat.le_of_ble_eq_true rfl) ⟨Nat.le_refl _, Nat.le_refl _⟩ rfl (fun H21 r21 q21 => ?_)
      obtain ⟨rfl, rfl⟩ := q21
      refine ew_if_eq (M := mX5_signOf) (tgt := 35) dX5_signOf_24 rfl (fun h => absurd h (by decide)) (fun _ => ?_)
      refine ew_iload_n (M := mX5_signOf) dX5_signOf_27 rfl ?_
      refine ew_bipush (M := mX5_signOf) dX5_signOf_28 (v := nI 97) (by decide) ?_
      refine ew_isub (M := mX5_signOf) dX5_signOf_30 ?_
      refine ew_bipush (M := mX5_signOf) dX5_signOf_31 (v := nI 10) (by decide) ?_
      refine ew_iadd (M := mX5_signOf) dX5_signOf_33 ?_
      refine ew_iret (M := mX5_signOf) dX5_signOf_34 rfl (by first | rfl | decide) (Nat.le_refl _) (Nat.le_refl _) ?_
      exact ⟨rfl, by rw [pk_sub h2.1, nI_add]; rfl⟩
    · rw [if_neg h2]
      by_cases h3 : x = 45
      · rw [if_pos h3]
        refine ew_iload_n (M := mX5_signOf) dX5_signOf_0 rfl ?_
        refine ew_bipush (M := mX5_signOf) dX5_signOf_1 (v := nI 48) (by decide) ?_
        refine ew_bipush (M := mX5_signOf) dX5_signOf_3 (v := nI 57) (by decide) ?_
        refine ew_callS (M := mX5_signOf) dX5_signOf_5 vX5_55 (sp_within_n (fun e => h1 ⟨(nI_leI (by omega) (by omega)).mp e.1, (nI_leI (by omega) (by omega)).mp e.2⟩)) rfl (Nat.le_of_ble_eq_true rfl) ⟨Nat.le_refl _, Nat.le_refl _⟩ rfl (fun H5 r5 q5 => ?_)
        obtain ⟨rfl, rfl⟩ := q5
        refine ew_if_eq (M := mX5_signOf) (tgt := 16) dX5_signOf_8 rfl (fun _ => ?_) (fun h => absurd (by decide) h)
        refine ew_iload_n (M := mX5_signOf) dX5_signOf_16 rfl ?_
        refine ew_bipush (M := mX5_signOf) dX5_signOf_17 (v := nI 97) (by decide) ?_
        refine ew_bipush (M := mX5_signOf) dX5_signOf_19 (v := nI 102) (by decide) ?_
        refine ew_callS (M := mX5_signOf) dX5_signOf_21 vX5_55 (sp_within_n (fun e => h2 ⟨(nI_leI (by omega) (by omega)).mp e.1, (nI_leI (by omega) (by omega)).mp e.2⟩)) rfl (Nat.le_of_ble_eq_true rfl) ⟨Nat.le_refl _, Nat.le_refl _⟩ rfl (fun H21 r21 q21 => ?_)
        obtain ⟨rfl, rfl⟩ := q21
        refine ew_if_eq (M := mX5_signOf) (tgt := 35) dX5_signOf_24 rfl (fun _ => ?_) (fun h => absurd (by decide) h)
        refine ew_iload_n (M := mX5_signOf) dX5_signOf_35 rfl ?_
        refine ew_bipush (M := mX5_signOf) dX5_signOf_36 (v := nI 45) (by decide) ?_
        refine ew_icmp_ne (M := mX5_signOf) (tgt := 46) dX5_signOf_38 rfl (fun h => absurd (by rw [h3]) h) (fun _ => ?_)
        refine ew_bipush (M := mX5_signOf) dX5_signOf_41 (v := nI 16) (by decide) ?_
        refine ew_goto (M := mX5_signOf) (tgt := 47) dX5_signOf_43 rfl ?_
        refine ew_iret (M := mX5_signOf) dX5_signOf_47 rfl (by first | rfl | decide) (Nat.le_refl _) (Nat.le_refl _) ?_
        exact ⟨rfl, rfl⟩
      · rw [if_neg h3]
        refine ew_iload_n (M := mX5_signOf) dX5_signOf_0 rfl ?_
        refine ew_bipush (M := mX5_signOf) dX5_signOf_1 (v := nI 48) (by decide) ?_
        refine ew_bipush (M := mX5_signOf) dX5_signOf_3 (v := nI 57) (by decide) ?_
        refine ew_callS (M := mX5_signOf) dX5_signOf_5 vX5_55 (sp_within_n (fun e => h1 ⟨(nI_leI (by omega) (by omega)).mp e.1, (nI_leI (by omega) (by omega)).mp e.2⟩)) rfl (Nat.le_of_ble_eq_true rfl) ⟨Nat.le_refl _, Nat.le_refl _⟩ rfl (fun H5 r5 q5 => ?_)
        obtain ⟨rfl, rfl⟩ := q5
        refine ew_if_eq (M := mX5_signOf) (tgt := 16) dX5_signOf_8 rfl (fun _ => ?_) (fun h => absurd (by decide) h)
        refine ew_iload_n (M := mX5_signOf) dX5_signOf_16 rfl ?_
        refine ew_bipush (M := mX5_signOf) dX5_signOf_17 (v := nI 97) (by decide) ?_
        refine ew_bipush (M := mX5_signOf) dX5_signOf_19 (v := nI 102) (by decide) ?_
        refine ew_callS (M := mX5_signOf) dX5_signOf_21 vX5_55 (sp_within_n (fun e => h2 ⟨(nI_leI (by omega) (by omega)).mp e.1, (nI_leI (by omega) (by omega)).mp e.2⟩)) rfl (Nat.le_of_ble_eq_true rfl) ⟨Nat.le_refl _, Nat.le_refl _⟩ rfl (fun H21 r21 q21 => ?_)
        obtain ⟨rfl, rfl⟩ := q21
        refine ew_if_eq (M := mX5_signOf) (tgt := 35) dX5_signOf_24 rfl (fun _ => ?_) (fun h => absurd (by decide) h)
        refine ew_iload_n (M := mX5_signOf) dX5_signOf_35 rfl ?_
        refine ew_bipush (M := mX5_signOf) dX5_signOf_36 (v := nI 45) (by decide) ?_
        refine ew_icmp_ne (M := mX5_signOf) (tgt := 46) dX5_signOf_38 rfl (fun _ => ?_) (fun h => absurd h (fun e => h3 ((nI_eq (by omega) (by decide)).mp e)))
        refine ew_iconst (M := mX5_signOf) dX5_signOf_46 (v := (-1)) (by decide) ?_
        refine ew_iret (M := mX5_signOf) dX5_signOf_47 rfl (by first | rfl | decide) (Nat.le_refl _) (Nat.le_refl _) ?_
        exact ⟨rfl, rfl⟩
def fsI (hf : Nat) : Int32 := if hf = 0 then -1 else nI (hf - 1)
def rdW (r wd : Nat) : Nat := if r = 0 then 10 else wd
/-- a reader's cells: dots read, row, column, width of the first row, the first sign and one (0: none) -/
def re_is (H : ex_H) (a p D r c wd hf : Nat) : Prop := H[a]? = some (ob 5 [.ref p, .int (nI D), .int (nI (rdW r wd)), .int (nI r), .int (nI c), .int (fsI hf)])
def rd_ok (D r c wd hf : Nat) : Prop := r ≤ 7 ∧ c ≤ rdW r wd ∧ rdW r wd ≤ 10 ∧ (0 < r → 1 ≤ wd) ∧ hf ≤ 17 ∧ (0 < hf → c < rdW r wd) ∧ D = (if r = 0 then c else r * wd + c)
/-- what of a picture has been read -/
def rd_pi (H : ex_H) (p D : Nat) (g m : Nat → Nat) : Prop := ∃ w h gs ms, pi_at H p w h gs ms ∧ ∀ k, k < D → gs k = nI (g k) ∧ ms k = nI (m k) ∧ g k < 256 ∧ m k < 2
theorem rd_80 {D r c wd hf : Nat} (h : rd_ok D r c wd hf) (hc : c < rdW r wd) : D < 80 := by
  obtain ⟨h1, h2, h3, h4, h5, h6, h7⟩ := h
  subst h7
  unfold rdW at *
  split
  · rename_i e; rw [if_pos e] at *; omega
  · rename_i e
    rw [if_neg e] at *
    have : r * wd ≤ 7 * wd := Nat.mul_le_mul_right _ h1
    omega
def brk (r c wd hf : Nat) : Nat := if hf ≠ 0 ∨ c = 0 then 1 else if 0 < r ∧ c < wd then 2 else 0
def rd_W (r c wd : Nat) : Nat := if r = 0 then c else wd
theorem sp_takeRowEnd_f {d : Nat} {H : ex_H} {a p D r c wd hf : Nat} (ha : re_is H a p D r c wd hf) (hok : rd_ok D r c wd hf) {b : Int32} (hb : brk r c wd hf ≠ 0) : ex_Met mX5_takeRowEnd (d + 2) 0 0 H [.ref a, .int b] (ex_r H (.int (nI (brk r c wd hf)))) := by
  obtain ⟨h1, h2, h3, h4, h5, h6, h7⟩ := id hok
  unfold re_is at ha
  unfold brk at *
  refine ex_meth [(0, .ref a), (1, .int b)] rfl rfl rfl (fun b => Nat.le_of_ble_eq_true rfl) ?_
  by_cases e1 : hf = 0
  · by_cases e2 : c = 0
    · rw [if_pos (Or.inr e2)]
      subst e1 e2
      refine ew_aload_n (M := mX5_takeRowEnd) dX5_takeRowEnd_0 rfl (Or.inr (Or.inl ⟨_, rfl⟩)) ?_
      refine ew_get (M := mX5_takeRowEnd) dX5_takeRowEnd_1 fX5_24 (by repeat (first | with_reducible assumption | refine ex_eq ?_ | refine ex_ne ?_ (by omega) | exact ex_lt (by with_reducible assumption) | rw [List.length_set] | assumption)) (by rfl) ?_
      refine ew_iconst (M := mX5_takeRowEnd) dX5_takeRowEnd_4 (v := (-1)) (by decide) ?_
      refine ew_icmp_ne (M := mX5_takeRowEnd) (tgt := 15) dX5_takeRowEnd_5 rfl (fun h => absurd rfl h) (fun _ => ?_)
      refine ew_aload_n (M := mX5_takeRowEnd) dX5_takeRowEnd_8 rfl (Or.inr (Or.inl ⟨_, rfl⟩)) ?_
      refine ew_get (M := mX5_takeRowEnd) dX5_takeRowEnd_9 fX5_21 (by repeat (first | with_reducible assumption | refine ex_eq ?_ | refine ex_ne ?_ (by omega) | exact ex_lt (by with_reducible assumption) | rw [List.length_set] | assumption)) (by rfl) ?_
      refine ew_if_ne (M := mX5_takeRowEnd) (tgt := 17) dX5_takeRowEnd_12 rfl (fun h => absurd rfl h) (fun _ => ?_)
      refine ew_iconst (M := mX5_takeRowEnd) dX5_takeRowEnd_15 (v := nI 1) (by decide) ?_
      refine ew_iret (M := mX5_takeRowEnd) dX5_takeRowEnd_16 rfl (by first | rfl | decide) (Nat.le_refl _) (Nat.le_refl _) ?_
      exact ⟨rfl, rfl⟩
    · have e3 : ¬ (hf ≠ 0 ∨ c = 0) := by omega
      rw [if_neg e3] at *
      have e4 : 0 < r ∧ c < wd := by
        by_cases e5 : 0 < r ∧ c < wd
        · exact e5
        · rw [if_neg e5] at hb; exact absurd rfl hb
      rw [if_pos e4]
      have e6 : rdW r wd = wd := if_neg (by omega)
      rw [e6] at ha h2 h3
      subst e1
      refine ew_aload_n (M := mX5_takeRowEnd) dX5_takeRowEnd_0 rfl (Or.inr (Or.inl ⟨_, rfl⟩)) ?_
      refine ew_get (M := mX5_takeRowEnd) dX5_takeRowEnd_1 fX5_24 (by repeat (first | with_reducible assumption | refine ex_eq ?_ | refine ex_ne ?_ (by omega) | exact ex_lt (by with_reducible assumption) | rw [List.length_set] | assumption)) (by rfl) ?_
      refine ew_iconst (M := mX5_takeRowEnd) dX5_takeRowEnd_4 (v := (-1)) (by decide) ?_
      refine ew_icmp_ne (M := mX5_takeRowEnd) (tgt := 15) dX5_takeRowEnd_5 rfl (fun h => absurd rfl h) (fun _ => ?_)
      refine ew_aload_n (M := mX5_takeRowEnd) dX5_takeRowEnd_8 rfl (Or.inr (Or.inl ⟨_, rfl⟩)) ?_
      refine ew_get (M := mX5_takeRowEnd) dX5_takeRowEnd_9 fX5_21 (by repeat (first | with_reducible assumption | refine ex_eq ?_ | refine ex_ne ?_ (by omega) | exact ex_lt (by with_reducible assumption) | rw [List.length_set] | assumption)) (by rfl) ?_
      refine ew_if_ne (M := mX5_takeRowEnd) (tgt := 17) dX5_takeRowEnd_12 rfl (fun _ => ?_) (fun h => absurd h (nI_n0 (by omega) (by omega)))
      refine ew_aload_n (M := mX5_takeRowEnd) dX5_takeRowEnd_17 rfl (Or.inr (Or.inl ⟨_, rfl⟩)) ?_
      refine ew_get (M := mX5_takeRowEnd) dX5_takeRowEnd_18 fX5_18 (by repeat (first | with_reducible assumption | refine ex_eq ?_ | refine ex_ne ?_ (by omega) | exact ex_lt (by with_reducible assumption) | rw [List.length_set] | assumption)) (by rfl) ?_
      refine ew_if_ne (M := mX5_takeRowEnd) (tgt := 32) dX5_takeRowEnd_21 rfl (fun _ => ?_) (fun h => absurd h (nI_n0 (by omega) (by omega)))
      refine ew_aload_n (M := mX5_takeRowEnd) dX5_takeRowEnd_32 rfl (Or.inr (Or.inl ⟨_, rfl⟩)) ?_
      refine ew_get (M := mX5_takeRowEnd) dX5_takeRowEnd_33 fX5_21 (by repeat (first | with_reducible assumption | refine ex_eq ?_ | refine ex_ne ?_ (by omega) | exact ex_lt (by with_reducible assumption) | rw [List.length_set] | assumption)) (by rfl) ?_
      refine ew_aload_n (M := mX5_takeRowEnd) dX5_takeRowEnd_36 rfl (Or.inr (Or.inl ⟨_, rfl⟩)) ?_
      refine ew_get (M := mX5_takeRowEnd) dX5_takeRowEnd_37 fX5_15 (by repeat (first | with_reducible assumption | refine ex_eq ?_ | refine ex_ne ?_ (by omega) | exact ex_lt (by with_reducible assumption) | rw [List.length_set] | assumption)) (by rfl) ?_
      refine ew_icmp_ge (M := mX5_takeRowEnd) (tgt := 45) dX5_takeRowEnd_40 rfl (fun h => absurd h (nI_ge (by omega) (by omega))) (fun _ => ?_)
      refine ew_iconst (M := mX5_takeRowEnd) dX5_takeRowEnd_43 (v := nI 2) (by decide) ?_
      refine ew_iret (M := mX5_takeRowEnd) dX5_takeRowEnd_44 rfl (by first | rfl | decide) (Nat.le_refl _) (Nat.le_refl _) ?_
      exact ⟨rfl, rfl⟩
  · rw [if_pos (Or.inl e1)]
    have e5 : fsI hf = nI (hf - 1) := if_neg e1
    rw [e5] at ha
    refine ew_aload_n (M := mX5_takeRowEnd) dX5_takeRowEnd_0 rfl (Or.inr (Or.inl ⟨_, rfl⟩)) ?_
    refine ew_get (M := mX5_takeRowEnd) dX5_takeRowEnd_1 fX5_24 (by repeat (first | with_reducible assumption | refine ex_eq ?_ | refine ex_ne ?_ (by omega) | exact ex_lt (by with_reducible assumption) | rw [List.length_set] | assumption)) (by rfl) ?_
    refine ew_iconst (M := mX5_takeRowEnd) dX5_takeRowEnd_4 (v := (-1)) (by decide) ?_
    refine ew_icmp_ne (M := mX5_takeRowEnd) (tgt := 15) dX5_takeRowEnd_5 rfl (fun _ => ?_) (fun h => absurd h (nI_m1 (by omega)))
    refine ew_iconst (M := mX5_takeRowEnd) dX5_takeRowEnd_15 (v := nI 1) (by decide) ?_
    refine ew_iret (M := mX5_takeRowEnd) dX5_takeRowEnd_16 rfl (by first | rfl | decide) (Nat.le_refl _) (Nat.le_refl _) ?_
    exact ⟨rfl, rfl⟩
theorem sp_takeRowEnd_b {d : Nat} {H : ex_H} {a p D r c wd hf : Nat} (ha : re_is H a p D r c wd hf) (hok : rd_ok D r c wd hf) (hb : brk r c wd hf = 0) : ex_Met mX5_takeRowEnd (d + 2) 0 0 H [.ref a, .int (nI 0)] (fun H' x => x = some (.int (nI (if r = 7 then 3 else 0))) ∧ ex_ch H H' [a] ∧ re_is H' a p D (r + 1) 0 (rd_W r c wd) 0) := by
  obtain ⟨h1, h2, h3, h4, h5, h6, h7⟩ := id hok
  unfold re_is at ha
  have e0 : hf = 0 ∧ c ≠ 0 ∧ ¬ (0 < r ∧ c < wd) := by
    unfold brk at hb
    by_cases q1 : hf ≠ 0 ∨ c = 0
    · rw [if_pos q1] at hb; omega
    · rw [if_neg q1] at hb
      by_cases q2 : 0 < r ∧ c < wd
      · rw [if_pos q2] at hb; omega
      · omega
  obtain ⟨rfl, e1, e2⟩ := e0
  have e3 : c = rd_W r c wd := by
    unfold rd_W rdW at *
    split
    · rfl
    · rename_i e; rw [if_neg e] at *; omega
  have e4 : 1 ≤ rd_W r c wd ∧ rd_W r c wd ≤ 10 := by rw [← e3]; omega
  refine ex_meth [(0, .ref a), (1, .int (nI 0))] rfl rfl rfl (fun b => Nat.le_of_ble_eq_true rfl) ?_
  by_cases hr : r = 0
  · subst hr
    rw [if_neg (by decide)]
    have e5 : rd_W 0 c wd = c := rfl
    rw [e5] at e4 ⊢
    refine ew_aload_n (M := mX5_takeRowEnd) dX5_takeRowEnd_0 rfl (Or.inr (Or.inl ⟨_, rfl⟩)) ?_
    refine ew_get (M := mX5_takeRowEnd) dX5_takeRowEnd_1 fX5_24 (by repeat (first | with_reducible assumption | refine ex_eq ?_ | refine ex_ne ?_ (by omega) | exact ex_lt (by with_reducible assumption) | rw [List.length_set] | assumption)) (by rfl) ?_
    refine ew_iconst (M := mX5_takeRowEnd) dX5_takeRowEnd_4 (v := (-1)) (by decide) ?_
    refine ew_icmp_ne (M := mX5_takeRowEnd) (tgt := 15) dX5_takeRowEnd_5 rfl (fun h => absurd rfl h) (fun _ => ?_)
    refine ew_aload_n (M := mX5_takeRowEnd) dX5_takeRowEnd_8 rfl (Or.inr (Or.inl ⟨_, rfl⟩)) ?_
    refine ew_get (M := mX5_takeRowEnd) dX5_takeRowEnd_9 fX5_21 (by repeat (first | with_reducible assumption | refine ex_eq ?_ | refine ex_ne ?_ (by omega) | exact ex_lt (by with_reducible assumption) | rw [List.length_set] | assumption)) (by rfl) ?_
    refine ew_if_ne (M := mX5_takeRowEnd) (tgt := 17) dX5_takeRowEnd_12 rfl (fun _ => ?_) (fun h => absurd h (nI_n0 (by omega) (by omega)))
    refine ew_aload_n (M := mX5_takeRowEnd) dX5_takeRowEnd_17 rfl (Or.inr (Or.inl ⟨_, rfl⟩)) ?_
    refine ew_get (M := mX5_takeRowEnd) dX5_takeRowEnd_18 fX5_18 (by repeat (first | with_reducible assumption | refine ex_eq ?_ | refine ex_ne ?_ (by omega) | exact ex_lt (by with_reducible assumption) | rw [List.length_set] | assumption)) (by rfl) ?_
    refine ew_if_ne (M := mX5_takeRowEnd) (tgt := 32) dX5_takeRowEnd_21 rfl (fun h => absurd rfl h) (fun _ => ?_)
    refine ew_aload_n (M := mX5_takeRowEnd) dX5_takeRowEnd_24 rfl (Or.inr (Or.inl ⟨_, rfl⟩)) ?_
    refine ew_aload_n (M := mX5_takeRowEnd) dX5_takeRowEnd_25 rfl (Or.inr (Or.inl ⟨_, rfl⟩)) ?_
    refine ew_get (M := mX5_takeRowEnd) dX5_takeRowEnd_26 fX5_21 (by repeat (first | with_reducible assumption | refine ex_eq ?_ | refine ex_ne ?_ (by omega) | exact ex_lt (by with_reducible assumption) | rw [List.length_set] | assumption)) (by rfl) ?_
    refine ew_put (M := mX5_takeRowEnd) dX5_takeRowEnd_29 fX5_15 (by repeat (first | with_reducible assumption | refine ex_eq ?_ | refine ex_ne ?_ (by omega) | exact ex_lt (by with_reducible assumption) | rw [List.length_set] | assumption)) (by exact Nat.le_of_ble_eq_true rfl) ⟨rfl, rfl, fun _ h => by cases h⟩ ?_
    refine ew_aload_n (M := mX5_takeRowEnd) dX5_takeRowEnd_32 rfl (Or.inr (Or.inl ⟨_, rfl⟩)) ?_
    refine ew_get (M := mX5_takeRowEnd) dX5_takeRowEnd_33 fX5_21 (by repeat (first | with_reducible assumption | refine ex_eq ?_ | refine ex_ne ?_ (by omega) | exact ex_lt (by with_reducible assumption) | rw [List.length_set] | assumption)) (by rfl) ?_
    refine ew_aload_n (M := mX5_takeRowEnd) dX5_takeRowEnd_36 rfl (Or.inr (Or.inl ⟨_, rfl⟩)) ?_
    refine ew_get (M := mX5_takeRowEnd) dX5_takeRowEnd_37 fX5_15 (by repeat (first | with_reducible assumption | refine ex_eq ?_ | refine ex_ne ?_ (by omega) | exact ex_lt (by with_reducible assumption) | rw [List.length_set] | assumption)) (by rfl) ?_
    refine ew_icmp_ge (M := mX5_takeRowEnd) (tgt := 45) dX5_takeRowEnd_40 rfl (fun _ => ?_) (fun h => absurd (Int32.le_refl _) h)
    refine ew_aload_n (M := mX5_takeRowEnd) dX5_takeRowEnd_45 rfl (Or.inr (Or.inl ⟨_, rfl⟩)) ?_
    refine ew_dup (M := mX5_takeRowEnd) dX5_takeRowEnd_46 rfl ?_
    refine ew_get (M := mX5_takeRowEnd) dX5_takeRowEnd_47 fX5_18 (by repeat (first | with_reducible assumption | refine ex_eq ?_ | refine ex_ne ?_ (by omega) | exact ex_lt (by with_reducible assumption) | rw [List.length_set] | assumption)) (by rfl) ?_
    refine ew_iconst (M := mX5_takeRowEnd) dX5_takeRowEnd_50 (v := nI 1) (by decide) ?_
    refine ew_iadd (M := mX5_takeRowEnd) dX5_takeRowEnd_51 ?_
    rw [nI_add]
    refine ew_put (M := mX5_takeRowEnd) dX5_takeRowEnd_52 fX5_18 (by repeat (first | with_reducible assumption | refine ex_eq ?_ | refine ex_ne ?_ (by omega) | exact ex_lt (by with_reducible assumption) | rw [List.length_set] | assumption)) (by exact Nat.le_of_ble_eq_true rfl) ⟨rfl, rfl, fun _ h => by cases h⟩ ?_
    refine ew_aload_n (M := mX5_takeRowEnd) dX5_takeRowEnd_55 rfl (Or.inr (Or.inl ⟨_, rfl⟩)) ?_
    refine ew_iconst (M := mX5_takeRowEnd) dX5_takeRowEnd_56 (v := nI 0) (by decide) ?_
    refine ew_put (M := mX5_takeRowEnd) dX5_takeRowEnd_57 fX5_21 (by repeat (first | with_reducible assumption | refine ex_eq ?_ | refine ex_ne ?_ (by omega) | exact ex_lt (by with_reducible assumption) | rw [List.length_set] | assumption)) (by exact Nat.le_of_ble_eq_true rfl) ⟨rfl, rfl, fun _ h => by cases h⟩ ?_
    refine ew_iload_n (M := mX5_takeRowEnd) dX5_takeRowEnd_60 rfl ?_
    refine ew_if_eq (M := mX5_takeRowEnd) (tgt := 81) dX5_takeRowEnd_61 rfl (fun _ => ?_) (fun h => absurd rfl h)
    refine ew_aload_n (M := mX5_takeRowEnd) dX5_takeRowEnd_81 rfl (Or.inr (Or.inl ⟨_, rfl⟩)) ?_
    refine ew_get (M := mX5_takeRowEnd) dX5_takeRowEnd_82 fX5_18 (by repeat (first | with_reducible assumption | refine ex_eq ?_ | refine ex_ne ?_ (by omega) | exact ex_lt (by with_reducible assumption) | rw [List.length_set] | assumption)) (by rfl) ?_
    refine ew_bipush (M := mX5_takeRowEnd) dX5_takeRowEnd_85 (v := nI 8) (by decide) ?_
    refine ew_icmp_ge (M := mX5_takeRowEnd) (tgt := 94) dX5_takeRowEnd_87 rfl (fun h => absurd h (nI_ge (by decide) (by decide))) (fun _ => ?_)
    refine ew_iconst (M := mX5_takeRowEnd) dX5_takeRowEnd_90 (v := nI 0) (by decide) ?_
    refine ew_goto (M := mX5_takeRowEnd) (tgt := 95) dX5_takeRowEnd_91 rfl ?_
    refine ew_iret (M := mX5_takeRowEnd) dX5_takeRowEnd_95 rfl (by first | rfl | decide) (Nat.le_refl _) (Nat.le_refl _) ?_
    exact ⟨rfl, ((ex_ch.rf.set (by simp)).set (by simp)).set (by simp), ex_eq (by rw [List.length_set]; rw [List.length_set]; exact ex_lt ha)⟩
  · have e5 : rd_W r c wd = wd := if_neg hr
    have e6 : rdW r wd = wd := if_neg hr
    rw [e5] at e3 e4 ⊢
    rw [e6] at ha h2 h3
    subst e3
    refine ew_aload_n (M := mX5_takeRowEnd) dX5_takeRowEnd_0 rfl (Or.inr (Or.inl ⟨_, rfl⟩)) ?_
    refine ew_get (M := mX5_takeRowEnd) dX5_takeRowEnd_1 fX5_24 (by repeat (first | with_reducible assumption | refine ex_eq ?_ | refine ex_ne ?_ (by omega) | exact ex_lt (by with_reducible assumption) | rw [List.length_set] | assumption)) (by rfl) ?_
    refine ew_iconst (M := mX5_takeRowEnd) dX5_takeRowEnd_4 (v := (-1)) (by decide) ?_
    refine ew_icmp_ne (M := mX5_takeRowEnd) (tgt := 15) dX5_takeRowEnd_5 rfl (fun h => absurd rfl h) (fun _ => ?_)
    refine ew_aload_n (M := mX5_takeRowEnd) dX5_takeRowEnd_8 rfl (Or.inr (Or.inl ⟨_, rfl⟩)) ?_
    refine ew_get (M := mX5_takeRowEnd) dX5_takeRowEnd_9 fX5_21 (by repeat (first | with_reducible assumption | refine ex_eq ?_ | refine ex_ne ?_ (by omega) | exact ex_lt (by with_reducible assumption) | rw [List.length_set] | assumption)) (by rfl) ?_
    refine ew_if_ne (M := mX5_takeRowEnd) (tgt := 17) dX5_takeRowEnd_12 rfl (fun _ => ?_) (fun h => absurd h (nI_n0 (by omega) (by omega)))
    refine ew_aload_n (M := mX5_takeRowEnd) dX5_takeRowEnd_17 rfl (Or.inr (Or.inl ⟨_, rfl⟩)) ?_
    refine ew_get (M := mX5_takeRowEnd) dX5_takeRowEnd_18 fX5_18 (by repeat (first | with_reducible assumption | refine ex_eq ?_ | refine ex_ne ?_ (by omega) | exact ex_lt (by with_reducible assumption) | rw [List.length_set] | assumption)) (by rfl) ?_
    refine ew_if_ne (M := mX5_takeRowEnd) (tgt := 32) dX5_takeRowEnd_21 rfl (fun _ => ?_) (fun h => absurd h (nI_n0 (by omega) (by omega)))
    refine ew_aload_n (M := mX5_takeRowEnd) dX5_takeRowEnd_32 rfl (Or.inr (Or.inl ⟨_, rfl⟩)) ?_
    refine ew_get (M := mX5_takeRowEnd) dX5_takeRowEnd_33 fX5_21 (by repeat (first | with_reducible assumption | refine ex_eq ?_ | refine ex_ne ?_ (by omega) | exact ex_lt (by with_reducible assumption) | rw [List.length_set] | assumption)) (by rfl) ?_
    refine ew_aload_n (M := mX5_takeRowEnd) dX5_takeRowEnd_36 rfl (Or.inr (Or.inl ⟨_, rfl⟩)) ?_
    refine ew_get (M := mX5_takeRowEnd) dX5_takeRowEnd_37 fX5_15 (by repeat (first | with_reducible assumption | refine ex_eq ?_ | refine ex_ne ?_ (by omega) | exact ex_lt (by with_reducible assumption) | rw [List.length_set] | assumption)) (by rfl) ?_
    refine ew_icmp_ge (M := mX5_takeRowEnd) (tgt := 45) dX5_takeRowEnd_40 rfl (fun _ => ?_) (fun h => absurd (Int32.le_refl _) h)
    refine ew_aload_n (M := mX5_takeRowEnd) dX5_takeRowEnd_45 rfl (Or.inr (Or.inl ⟨_, rfl⟩)) ?_
    refine ew_dup (M := mX5_takeRowEnd) dX5_takeRowEnd_46 rfl ?_
    refine ew_get (M := mX5_takeRowEnd) dX5_takeRowEnd_47 fX5_18 (by repeat (first | with_reducible assumption | refine ex_eq ?_ | refine ex_ne ?_ (by omega) | exact ex_lt (by with_reducible assumption) | rw [List.length_set] | assumption)) (by rfl) ?_
    refine ew_iconst (M := mX5_takeRowEnd) dX5_takeRowEnd_50 (v := nI 1) (by decide) ?_
    refine ew_iadd (M := mX5_takeRowEnd) dX5_takeRowEnd_51 ?_
    rw [nI_add]
    refine ew_put (M := mX5_takeRowEnd) dX5_takeRowEnd_52 fX5_18 (by repeat (first | with_reducible assumption | refine ex_eq ?_ | refine ex_ne ?_ (by omega) | exact ex_lt (by with_reducible assumption) | rw [List.length_set] | assumption)) (by exact Nat.le_of_ble_eq_true rfl) ⟨rfl, rfl, fun _ h => by cases h⟩ ?_
    refine ew_aload_n (M := mX5_takeRowEnd) dX5_takeRowEnd_55 rfl (Or.inr (Or.inl ⟨_, rfl⟩)) ?_
    refine ew_iconst (M := mX5_takeRowEnd) dX5_takeRowEnd_56 (v := nI 0) (by decide) ?_
    refine ew_put (M := mX5_takeRowEnd) dX5_takeRowEnd_57 fX5_21 (by repeat (first | with_reducible assumption | refine ex_eq ?_ | refine ex_ne ?_ (by omega) | exact ex_lt (by with_reducible assumption) | rw [List.length_set] | assumption)) (by exact Nat.le_of_ble_eq_true rfl) ⟨rfl, rfl, fun _ h => by cases h⟩ ?_
    refine ew_iload_n (M := mX5_takeRowEnd) dX5_takeRowEnd_60 rfl ?_
    refine ew_if_eq (M := mX5_takeRowEnd) (tgt := 81) dX5_takeRowEnd_61 rfl (fun _ => ?_) (fun h => absurd rfl h)
    refine ew_aload_n (M := mX5_takeRowEnd) dX5_takeRowEnd_81 rfl (Or.inr (Or.inl ⟨_, rfl⟩)) ?_
    refine ew_get (M := mX5_takeRowEnd) dX5_takeRowEnd_82 fX5_18 (by repeat (first | with_reducible assumption | refine ex_eq ?_ | refine ex_ne ?_ (by omega) | exact ex_lt (by with_reducible assumption) | rw [List.length_set] | assumption)) (by rfl) ?_
    refine ew_bipush (M := mX5_takeRowEnd) dX5_takeRowEnd_85 (v := nI 8) (by decide) ?_
    refine ew_icmp_ge (M := mX5_takeRowEnd) (tgt := 94) dX5_takeRowEnd_87 rfl (fun c87 => ?_) (fun c87 => ?_)
    · rw [nI_leI (by decide) (by omega)] at c87
      rw [if_pos (by omega)]
      refine ew_iconst (M := mX5_takeRowEnd) dX5_takeRowEnd_94 (v := nI 3) (by decide) ?_
      refine ew_iret (M := mX5_takeRowEnd) dX5_takeRowEnd_95 rfl (by first | rfl | decide) (Nat.le_refl _) (Nat.le_refl _) ?_
      exact ⟨rfl, (ex_ch.rf.set (by simp)).set (by simp), ex_eq (by rw [List.length_set]; exact ex_lt ha)⟩
    · rw [nI_leI (by decide) (by omega)] at c87
      rw [if_neg (by omega)]
      refine ew_iconst (M := mX5_takeRowEnd) dX5_takeRowEnd_90 (v := nI 0) (by decide) ?_
      refine ew_goto (M := mX5_takeRowEnd) (tgt := 95) dX5_takeRowEnd_91 rfl ?_
      refine ew_iret (M := mX5_takeRowEnd) dX5_takeRowEnd_95 rfl (by first | rfl | decide) (Nat.le_refl _) (Nat.le_refl _) ?_
      exact ⟨rfl, (ex_ch.rf.set (by simp)).set (by simp), ex_eq (by rw [List.length_set]; exact ex_lt ha)⟩
theorem sp_takeRowEnd_e {d : Nat} {H : ex_H} {a p D r c wd hf : Nat} (ha : re_is H a p D r c wd hf) (hok : rd_ok D r c wd hf) {g m : Nat → Nat} (hp : rd_pi H p D g m) (hap : a < p ∨ p + 2 < a) (hb : brk r c wd hf = 0) : ex_Met mX5_takeRowEnd (d + 2) 0 0 H [.ref a, .int (nI 1)] (fun H' x => x = some (.int (nI 0)) ∧ ex_ch H H' [a, p] ∧ pi_is H' p (rd_W r c wd) (r + 1) g m) := by
  obtain ⟨h1, h2, h3, h4, h5, h6, h7⟩ := id hok
  unfold re_is at ha
  have e0 : hf = 0 ∧ c ≠ 0 ∧ ¬ (0 < r ∧ c < wd) := by
    unfold brk at hb
    by_cases q1 : hf ≠ 0 ∨ c = 0
    · rw [if_pos q1] at hb; omega
    · rw [if_neg q1] at hb
      by_cases q2 : 0 < r ∧ c < wd
      · rw [if_pos q2] at hb; omega
      · omega
  obtain ⟨rfl, e1, e2⟩ := e0
  have e3 : c = rd_W r c wd := by
    unfold rd_W rdW at *
    split
    · rfl
    · rename_i e; rw [if_neg e] at *; omega
  have e4 : 1 ≤ rd_W r c wd ∧ rd_W r c wd ≤ 10 := by rw [← e3]; omega
  have e7 : rd_W r c wd * (r + 1) = D := by
    subst h7
    unfold rd_W
    by_cases hr : r = 0
    · subst hr; rw [if_pos rfl, if_pos rfl]; omega
    · rw [if_neg hr, if_neg hr, Nat.mul_succ, Nat.mul_comm]
      rw [rd_W, if_neg hr] at e3
      omega
  have hz : pi_sz (rd_W r c wd) (r + 1) := ⟨e4.1, e4.2, by omega, by omega⟩
  obtain ⟨w0, h0, gs, ms, hp0, hgm⟩ := hp
  obtain ⟨hp1, hp2, hp3⟩ := id hp0
  refine ex_meth [(0, .ref a), (1, .int (nI 1))] rfl rfl rfl (fun b => Nat.le_of_ble_eq_true rfl) ?_
  by_cases hr : r = 0
  · subst hr
    have e5 : rd_W 0 c wd = c := rfl
    rw [e5] at e4 e7 hz ⊢
    refine ew_aload_n (M := mX5_takeRowEnd) dX5_takeRowEnd_0 rfl (Or.inr (Or.inl ⟨_, rfl⟩)) ?_
    refine ew_get (M := mX5_takeRowEnd) dX5_takeRowEnd_1 fX5_24 (by repeat (first | with_reducible assumption | refine ex_eq ?_ | refine ex_ne ?_ (by omega) | exact ex_lt (by with_reducible assumption) | rw [List.length_set] | assumption)) (by rfl) ?_
    refine ew_iconst (M := mX5_takeRowEnd) dX5_takeRowEnd_4 (v := (-1)) (by decide) ?_
    refine ew_icmp_ne (M := mX5_takeRowEnd) (tgt := 15) dX5_takeRowEnd_5 rfl (fun h => absurd rfl h) (fun _ => ?_)
    refine ew_aload_n (M := mX5_takeRowEnd) dX5_takeRowEnd_8 rfl (Or.inr (Or.inl ⟨_, rfl⟩)) ?_
    refine ew_get (M := mX5_takeRowEnd) dX5_takeRowEnd_9 fX5_21 (by repeat (first | with_reducible assumption | refine ex_eq ?_ | refine ex_ne ?_ (by omega) | exact ex_lt (by with_reducible assumption) | rw [List.length_set] | assumption)) (by rfl) ?_
    refine ew_if_ne (M := mX5_takeRowEnd) (tgt := 17) dX5_takeRowEnd_12 rfl (fun _ => ?_) (fun h => absurd h (nI_n0 (by omega) (by omega)))
    refine ew_aload_n (M := mX5_takeRowEnd) dX5_takeRowEnd_17 rfl (Or.inr (Or.inl ⟨_, rfl⟩)) ?_
    refine ew_get (M := mX5_takeRowEnd) dX5_takeRowEnd_18 fX5_18 (by repeat (first | with_reducible assumption | refine ex_eq ?_ | refine ex_ne ?_ (by omega) | exact ex_lt (by with_reducible assumption) | rw [List.length_set] | assumption)) (by rfl) ?_
    refine ew_if_ne (M := mX5_takeRowEnd) (tgt := 32) dX5_takeRowEnd_21 rfl (fun h => absurd rfl h) (fun _ => ?_)
    refine ew_aload_n (M := mX5_takeRowEnd) dX5_takeRowEnd_24 rfl (Or.inr (Or.inl ⟨_, rfl⟩)) ?_
    refine ew_aload_n (M := mX5_takeRowEnd) dX5_takeRowEnd_25 rfl (Or.inr (Or.inl ⟨_, rfl⟩)) ?_
    refine ew_get (M := mX5_takeRowEnd) dX5_takeRowEnd_26 fX5_21 (by repeat (first | with_reducible assumption | refine ex_eq ?_ | refine ex_ne ?_ (by omega) | exact ex_lt (by with_reducible assumption) | rw [List.length_set] | assumption)) (by rfl) ?_
    refine ew_put (M := mX5_takeRowEnd) dX5_takeRowEnd_29 fX5_15 (by repeat (first | with_reducible assumption | refine ex_eq ?_ | refine ex_ne ?_ (by omega) | exact ex_lt (by with_reducible assumption) | rw [List.length_set] | assumption)) (by exact Nat.le_of_ble_eq_true rfl) ⟨rfl, rfl, fun _ h => by cases h⟩ ?_
    refine ew_aload_n (M := mX5_takeRowEnd) dX5_takeRowEnd_32 rfl (Or.inr (Or.inl ⟨_, rfl⟩)) ?_
    refine ew_get (M := mX5_takeRowEnd) dX5_takeRowEnd_33 fX5_21 (by repeat (first | with_reducible assumption | refine ex_eq ?_ | refine ex_ne ?_ (by omega) | exact ex_lt (by with_reducible assumption) | rw [List.length_set] | assumption)) (by rfl) ?_
    refine ew_aload_n (M := mX5_takeRowEnd) dX5_takeRowEnd_36 rfl (Or.inr (Or.inl ⟨_, rfl⟩)) ?_
    refine ew_get (M := mX5_takeRowEnd) dX5_takeRowEnd_37 fX5_15 (by repeat (first | with_reducible assumption | refine ex_eq ?_ | refine ex_ne ?_ (by omega) | exact ex_lt (by with_reducible assumption) | rw [List.length_set] | assumption)) (by rfl) ?_
    refine ew_icmp_ge (M := mX5_takeRowEnd) (tgt := 45) dX5_takeRowEnd_40 rfl (fun _ => ?_) (fun h => absurd (Int32.le_refl _) h)
    refine ew_aload_n (M := mX5_takeRowEnd) dX5_takeRowEnd_45 rfl (Or.inr (Or.inl ⟨_, rfl⟩)) ?_
    refine ew_dup (M := mX5_takeRowEnd) dX5_takeRowEnd_46 rfl ?_
    refine ew_get (M := mX5_takeRowEnd) dX5_takeRowEnd_47 fX5_18 (by repeat (first | with_reducible assumption | refine ex_eq ?_ | refine ex_ne ?_ (by omega) | exact ex_lt (by with_reducible assumption) | rw [List.length_set] | assumption)) (by rfl) ?_
    refine ew_iconst (M := mX5_takeRowEnd) dX5_takeRowEnd_50 (v := nI 1) (by decide) ?_
    refine ew_iadd (M := mX5_takeRowEnd) dX5_takeRowEnd_51 ?_
    rw [nI_add]
    refine ew_put (M := mX5_takeRowEnd) dX5_takeRowEnd_52 fX5_18 (by repeat (first | with_reducible assumption | refine ex_eq ?_ | refine ex_ne ?_ (by omega) | exact ex_lt (by with_reducible assumption) | rw [List.length_set] | assumption)) (by exact Nat.le_of_ble_eq_true rfl) ⟨rfl, rfl, fun _ h => by cases h⟩ ?_
    refine ew_aload_n (M := mX5_takeRowEnd) dX5_takeRowEnd_55 rfl (Or.inr (Or.inl ⟨_, rfl⟩)) ?_
    refine ew_iconst (M := mX5_takeRowEnd) dX5_takeRowEnd_56 (v := nI 0) (by decide) ?_
    refine ew_put (M := mX5_takeRowEnd) dX5_takeRowEnd_57 fX5_21 (by repeat (first | with_reducible assumption | refine ex_eq ?_ | refine ex_ne ?_ (by omega) | exact ex_lt (by with_reducible assumption) | rw [List.length_set] | assumption)) (by exact Nat.le_of_ble_eq_true rfl) ⟨rfl, rfl, fun _ h => by cases h⟩ ?_
    refine ew_iload_n (M := mX5_takeRowEnd) dX5_takeRowEnd_60 rfl ?_
    refine ew_if_eq (M := mX5_takeRowEnd) (tgt := 81) dX5_takeRowEnd_61 rfl (fun h => absurd h (by decide)) (fun _ => ?_)
    refine ew_aload_n (M := mX5_takeRowEnd) dX5_takeRowEnd_64 rfl (Or.inr (Or.inl ⟨_, rfl⟩)) ?_
    refine ew_get (M := mX5_takeRowEnd) dX5_takeRowEnd_65 fX5_27 (by repeat (first | with_reducible assumption | refine ex_eq ?_ | refine ex_ne ?_ (by omega) | exact ex_lt (by with_reducible assumption) | rw [List.length_set] | assumption)) (by rfl) ?_
    refine ew_aload_n (M := mX5_takeRowEnd) dX5_takeRowEnd_68 rfl (Or.inr (Or.inl ⟨_, rfl⟩)) ?_
    refine ew_get (M := mX5_takeRowEnd) dX5_takeRowEnd_69 fX5_15 (by repeat (first | with_reducible assumption | refine ex_eq ?_ | refine ex_ne ?_ (by omega) | exact ex_lt (by with_reducible assumption) | rw [List.length_set] | assumption)) (by rfl) ?_
    refine ew_aload_n (M := mX5_takeRowEnd) dX5_takeRowEnd_72 rfl (Or.inr (Or.inl ⟨_, rfl⟩)) ?_
    refine ew_get (M := mX5_takeRowEnd) dX5_takeRowEnd_73 fX5_18 (by repeat (first | with_reducible assumption | refine ex_eq ?_ | refine ex_ne ?_ (by omega) | exact ex_lt (by with_reducible assumption) | rw [List.length_set] | assumption)) (by rfl) ?_
    refine ew_callV (M := mX5_takeRowEnd) dX5_takeRowEnd_76 vX5_45 (by repeat (first | with_reducible assumption | refine ex_eq ?_ | refine ex_ne ?_ (by omega) | exact ex_lt (by with_reducible assumption) | rw [List.length_set] | assumption)) rfl (sp_setSize (p := p) (gs := gs) (ms := ms) (w0 := w0) (h0 := h0) ⟨(by repeat (first | with_reducible assumption | refine ex_eq ?_ | refine ex_ne ?_ (by omega) | exact ex_lt (by with_reducible assumption) | rw [List.length_set] | assumption)), (by repeat (first | with_reducible assumption | refine ex_eq ?_ | refine ex_ne ?_ (by omega) | exact ex_lt (by with_reducible assumption) | rw [List.length_set] | assumption)), (by repeat (first | with_reducible assumption | refine ex_eq ?_ | refine ex_ne ?_ (by omega) | exact ex_lt (by with_reducible assumption) | rw [List.length_set] | assumption))⟩ hz) rfl (Nat.le_of_ble_eq_true rfl) ⟨Nat.le_refl _, Nat.le_refl _⟩ rfl (fun H76 r76 q76 => ?_)
    obtain ⟨rfl, hc1, hp4⟩ := q76
    refine ew_iconst (M := mX5_takeRowEnd) dX5_takeRowEnd_79 (v := nI 0) (by decide) ?_
    refine ew_iret (M := mX5_takeRowEnd) dX5_takeRowEnd_80 rfl (by first | rfl | decide) (Nat.le_refl _) (Nat.le_refl _) ?_
    refine ⟨rfl, (((ex_ch.rf.set (by simp)).set (by simp)).set (by simp) : ex_ch H _ [a, p]).tr hc1 (by simp), ⟨hz, fun k hk => ?_⟩, gs, ms, hp4, fun k hk => ?_⟩
    · rw [e7] at hk; exact ⟨(hgm k hk).2.2.1, (hgm k hk).2.2.2⟩
    · rw [e7] at hk; exact ⟨(hgm k hk).1, (hgm k hk).2.1⟩
  · have e5 : rd_W r c wd = wd := if_neg hr
    have e6 : rdW r wd = wd := if_neg hr
    rw [e5] at e3 e4 e7 hz ⊢
    rw [e6] at ha h2 h3
    subst e3
    refine ew_aload_n (M := mX5_takeRowEnd) dX5_takeRowEnd_0 rfl (Or.inr (Or.inl ⟨_, rfl⟩)) ?_
    refine ew_get (M := mX5_takeRowEnd) dX5_takeRowEnd_1 fX5_24 (by repeat (first | with_reducible assumption | refine ex_eq ?_ | refine ex_ne ?_ (by omega) | exact ex_lt (by with_reducible assumption) | rw [List.length_set] | assumption)) (by rfl) ?_
    refine ew_iconst (M := mX5_takeRowEnd) dX5_takeRowEnd_4 (v := (-1)) (by decide) ?_
    refine ew_icmp_ne (M := mX5_takeRowEnd) (tgt := 15) dX5_takeRowEnd_5 rfl (fun h => absurd rfl h) (fun _ => ?_)
    refine ew_aload_n (M := mX5_takeRowEnd) dX5_takeRowEnd_8 rfl (Or.inr (Or.inl ⟨_, rfl⟩)) ?_
    refine ew_get (M := mX5_takeRowEnd) dX5_takeRowEnd_9 fX5_21 (by repeat (first | with_reducible assumption | refine ex_eq ?_ | refine ex_ne ?_ (by omega) | exact ex_lt (by with_reducible assumption) | rw [List.length_set] | assumption)) (by rfl) ?_
    refine ew_if_ne (M := mX5_takeRowEnd) (tgt := 17) dX5_takeRowEnd_12 rfl (fun _ => ?_) (fun h => absurd h (nI_n0 (by omega) (by omega)))
    refine ew_aload_n (M := mX5_takeRowEnd) dX5_takeRowEnd_17 rfl (Or.inr (Or.inl ⟨_, rfl⟩)) ?_
    refine ew_get (M := mX5_takeRowEnd) dX5_takeRowEnd_18 fX5_18 (by repeat (first | with_reducible assumption | refine ex_eq ?_ | refine ex_ne ?_ (by omega) | exact ex_lt (by with_reducible assumption) | rw [List.length_set] | assumption)) (by rfl) ?_
    refine ew_if_ne (M := mX5_takeRowEnd) (tgt := 32) dX5_takeRowEnd_21 rfl (fun _ => ?_) (fun h => absurd h (nI_n0 (by omega) (by omega)))
    refine ew_aload_n (M := mX5_takeRowEnd) dX5_takeRowEnd_32 rfl (Or.inr (Or.inl ⟨_, rfl⟩)) ?_
    refine ew_get (M := mX5_takeRowEnd) dX5_takeRowEnd_33 fX5_21 (by repeat (first | with_reducible assumption | refine ex_eq ?_ | refine ex_ne ?_ (by omega) | exact ex_lt (by with_reducible assumption) | rw [List.length_set] | assumption)) (by rfl) ?_
    refine ew_aload_n (M := mX5_takeRowEnd) dX5_takeRowEnd_36 rfl (Or.inr (Or.inl ⟨_, rfl⟩)) ?_
    refine ew_get (M := mX5_takeRowEnd) dX5_takeRowEnd_37 fX5_15 (by repeat (first | with_reducible assumption | refine ex_eq ?_ | refine ex_ne ?_ (by omega) | exact ex_lt (by with_reducible assumption) | rw [List.length_set] | assumption)) (by rfl) ?_
    refine ew_icmp_ge (M := mX5_takeRowEnd) (tgt := 45) dX5_takeRowEnd_40 rfl (fun _ => ?_) (fun h => absurd (Int32.le_refl _) h)
    refine ew_aload_n (M := mX5_takeRowEnd) dX5_takeRowEnd_45 rfl (Or.inr (Or.inl ⟨_, rfl⟩)) ?_
    refine ew_dup (M := mX5_takeRowEnd) dX5_takeRowEnd_46 rfl ?_
    refine ew_get (M := mX5_takeRowEnd) dX5_takeRowEnd_47 fX5_18 (by repeat (first | with_reducible assumption | refine ex_eq ?_ | refine ex_ne ?_ (by omega) | exact ex_lt (by with_reducible assumption) | rw [List.length_set] | assumption)) (by rfl) ?_
    refine ew_iconst (M := mX5_takeRowEnd) dX5_takeRowEnd_50 (v := nI 1) (by decide) ?_
    refine ew_iadd (M := mX5_takeRowEnd) dX5_takeRowEnd_51 ?_
    rw [nI_add]
    refine ew_put (M := mX5_takeRowEnd) dX5_takeRowEnd_52 fX5_18 (by repeat (first | with_reducible assumption | refine ex_eq ?_ | refine ex_ne ?_ (by omega) | exact ex_lt (by with_reducible assumption) | rw [List.length_set] | assumption)) (by exact Nat.le_of_ble_eq_true rfl) ⟨rfl, rfl, fun _ h => by cases h⟩ ?_
    refine ew_aload_n (M := mX5_takeRowEnd) dX5_takeRowEnd_55 rfl (Or.inr (Or.inl ⟨_, rfl⟩)) ?_
    refine ew_iconst (M := mX5_takeRowEnd) dX5_takeRowEnd_56 (v := nI 0) (by decide) ?_
    refine ew_put (M := mX5_takeRowEnd) dX5_takeRowEnd_57 fX5_21 (by repeat (first | with_reducible assumption | refine ex_eq ?_ | refine ex_ne ?_ (by omega) | exact ex_lt (by with_reducible assumption) | rw [List.length_set] | assumption)) (by exact Nat.le_of_ble_eq_true rfl) ⟨rfl, rfl, fun _ h => by cases h⟩ ?_
    refine ew_iload_n (M := mX5_takeRowEnd) dX5_takeRowEnd_60 rfl ?_
    refine ew_if_eq (M := mX5_takeRowEnd) (tgt := 81) dX5_takeRowEnd_61 rfl (fun h => absurd h (by decide)) (fun _ => ?_)
    refine ew_aload_n (M := mX5_takeRowEnd) dX5_takeRowEnd_64 rfl (Or.inr (Or.inl ⟨_, rfl⟩)) ?_
    refine ew_get (M := mX5_takeRowEnd) dX5_takeRowEnd_65 fX5_27 (by repeat (first | with_reducible assumption | refine ex_eq ?_ | refine ex_ne ?_ (by omega) | exact ex_lt (by with_reducible assumption) | rw [List.length_set] | assumption)) (by rfl) ?_
    refine ew_aload_n (M := mX5_takeRowEnd) dX5_takeRowEnd_68 rfl (Or.inr (Or.inl ⟨_, rfl⟩)) ?_
    refine ew_get (M := mX5_takeRowEnd) dX5_takeRowEnd_69 fX5_15 (by repeat (first | with_reducible assumption | refine ex_eq ?_ | refine ex_ne ?_ (by omega) | exact ex_lt (by with_reducible assumption) | rw [List.length_set] | assumption)) (by rfl) ?_
    refine ew_aload_n (M := mX5_takeRowEnd) dX5_takeRowEnd_72 rfl (Or.inr (Or.inl ⟨_, rfl⟩)) ?_
    refine ew_get (M := mX5_takeRowEnd) dX5_takeRowEnd_73 fX5_18 (by repeat (first | with_reducible assumption | refine ex_eq ?_ | refine ex_ne ?_ (by omega) | exact ex_lt (by with_reducible assumption) | rw [List.length_set] | assumption)) (by rfl) ?_
    refine ew_callV (M := mX5_takeRowEnd) dX5_takeRowEnd_76 vX5_45 (by repeat (first | with_reducible assumption | refine ex_eq ?_ | refine ex_ne ?_ (by omega) | exact ex_lt (by with_reducible assumption) | rw [List.length_set] | assumption)) rfl (sp_setSize (p := p) (gs := gs) (ms := ms) (w0 := w0) (h0 := h0) ⟨(by repeat (first | with_reducible assumption | refine ex_eq ?_ | refine ex_ne ?_ (by omega) | exact ex_lt (by with_reducible assumption) | rw [List.length_set] | assumption)), (by repeat (first | with_reducible assumption | refine ex_eq ?_ | refine ex_ne ?_ (by omega) | exact ex_lt (by with_reducible assumption) | rw [List.length_set] | assumption)), (by repeat (first | with_reducible assumption | refine ex_eq ?_ | refine ex_ne ?_ (by omega) | exact ex_lt (by with_reducible assumption) | rw [List.length_set] | assumption))⟩ hz) rfl (Nat.le_of_ble_eq_true rfl) ⟨Nat.le_refl _, Nat.le_refl _⟩ rfl (fun H76 r76 q76 => ?_)
    obtain ⟨rfl, hc1, hp4⟩ := q76
    refine ew_iconst (M := mX5_takeRowEnd) dX5_takeRowEnd_79 (v := nI 0) (by decide) ?_
    refine ew_iret (M := mX5_takeRowEnd) dX5_takeRowEnd_80 rfl (by first | rfl | decide) (Nat.le_refl _) (Nat.le_refl _) ?_
    refine ⟨rfl, ((ex_ch.rf.set (by simp)).set (by simp) : ex_ch H _ [a, p]).tr hc1 (by simp), ⟨hz, fun k hk => ?_⟩, gs, ms, hp4, fun k hk => ?_⟩
    · rw [e7] at hk; exact ⟨(hgm k hk).2.2.1, (hgm k hk).2.2.2⟩
    · rw [e7] at hk; exact ⟨(hgm k hk).1, (hgm k hk).2.1⟩
end
