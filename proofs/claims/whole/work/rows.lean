section
-- ===== PART A: goes FIRST, ahead of the names: the tables' words, and 'selects' of the private methods out of them =====
/-- a private method of a class that the tables say can be made, by its rows of tables_1 -/
def lw_okq (q : MethodName × Nat) : Prop := (q.1.cls ≠ "java/lang/invoke/MethodHandle" ∧ q.1.cls ≠ "java/lang/invoke/VarHandle") ∧ Cond.instantiable q.1.cls q.2 ∈ tables_1 ∧ Cond.privateMethod q.1 ∈ tables_1 ∧ Cond.instanceMethod q.1 ∈ tables_1
theorem lw_p0 : lw_okq (⟨"TalliedWindows$Reader", "takeFirstSign", "(I)I"⟩, 6) := ⟨⟨by decide +kernel, by decide +kernel⟩, List.mem_of_getElem? (i := 218) (by decide +kernel), List.mem_of_getElem? (i := 260) (by decide +kernel), List.mem_of_getElem? (i := 261) (by decide +kernel)⟩
theorem lw_p1 : lw_okq (⟨"TalliedWindows$Reader", "takeSecondSign", "(I)I"⟩, 6) := ⟨⟨by decide +kernel, by decide +kernel⟩, List.mem_of_getElem? (i := 218) (by decide +kernel), List.mem_of_getElem? (i := 264) (by decide +kernel), List.mem_of_getElem? (i := 265) (by decide +kernel)⟩
theorem lw_p2 : lw_okq (⟨"TalliedWindows$Window", "countRow", "(LTalliedWindows$Picture;LTalliedWindows$Filter;III)V"⟩, 3) := ⟨⟨by decide +kernel, by decide +kernel⟩, List.mem_of_getElem? (i := 147) (by decide +kernel), List.mem_of_getElem? (i := 435) (by decide +kernel), List.mem_of_getElem? (i := 436) (by decide +kernel)⟩
theorem lw_p3 : lw_okq (⟨"TalliedWindows$Window", "count", "(II)V"⟩, 3) := ⟨⟨by decide +kernel, by decide +kernel⟩, List.mem_of_getElem? (i := 147) (by decide +kernel), List.mem_of_getElem? (i := 439) (by decide +kernel), List.mem_of_getElem? (i := 440) (by decide +kernel)⟩
theorem lw_p4 : lw_okq (⟨"TalliedWindows", "lastOf", "(LTalliedWindows$Filter;II)I"⟩, 10) := ⟨⟨by decide +kernel, by decide +kernel⟩, List.mem_of_getElem? (i := 15) (by decide +kernel), List.mem_of_getElem? (i := 462) (by decide +kernel), List.mem_of_getElem? (i := 463) (by decide +kernel)⟩
theorem lw_p5 : lw_okq (⟨"TalliedWindows", "apply", "(LTalliedWindows$Filter;)I"⟩, 10) := ⟨⟨by decide +kernel, by decide +kernel⟩, List.mem_of_getElem? (i := 15) (by decide +kernel), List.mem_of_getElem? (i := 504) (by decide +kernel), List.mem_of_getElem? (i := 505) (by decide +kernel)⟩
theorem lw_p6 : lw_okq (⟨"TalliedWindows$State", "draw", "(I)I"⟩, 4) := ⟨⟨by decide +kernel, by decide +kernel⟩, List.mem_of_getElem? (i := 41) (by decide +kernel), List.mem_of_getElem? (i := 528) (by decide +kernel), List.mem_of_getElem? (i := 529) (by decide +kernel)⟩
theorem lw_p7 : lw_okq (⟨"TalliedWindowsModel", "readText", "()I"⟩, 23) := ⟨⟨by decide +kernel, by decide +kernel⟩, List.mem_of_getElem? (i := 592) (by decide +kernel), List.mem_of_getElem? (i := 682) (by decide +kernel), List.mem_of_getElem? (i := 683) (by decide +kernel)⟩
theorem lw_p8 : lw_okq (⟨"TalliedWindowsModel", "faultOf", "(I)I"⟩, 23) := ⟨⟨by decide +kernel, by decide +kernel⟩, List.mem_of_getElem? (i := 592) (by decide +kernel), List.mem_of_getElem? (i := 686) (by decide +kernel), List.mem_of_getElem? (i := 687) (by decide +kernel)⟩
theorem lw_p9 : lw_okq (⟨"TalliedWindowsModel", "faultOfBreak", "()I"⟩, 23) := ⟨⟨by decide +kernel, by decide +kernel⟩, List.mem_of_getElem? (i := 592) (by decide +kernel), List.mem_of_getElem? (i := 690) (by decide +kernel), List.mem_of_getElem? (i := 691) (by decide +kernel)⟩
theorem lw_p10 : lw_okq (⟨"TalliedWindowsModel", "isShort", "()Z"⟩, 23) := ⟨⟨by decide +kernel, by decide +kernel⟩, List.mem_of_getElem? (i := 592) (by decide +kernel), List.mem_of_getElem? (i := 694) (by decide +kernel), List.mem_of_getElem? (i := 695) (by decide +kernel)⟩
theorem lw_p11 : lw_okq (⟨"TalliedWindowsModel", "goOn", "(I)V"⟩, 23) := ⟨⟨by decide +kernel, by decide +kernel⟩, List.mem_of_getElem? (i := 592) (by decide +kernel), List.mem_of_getElem? (i := 705) (by decide +kernel), List.mem_of_getElem? (i := 706) (by decide +kernel)⟩
theorem lw_p12 : lw_okq (⟨"TalliedWindowsModel", "remember", "()V"⟩, 23) := ⟨⟨by decide +kernel, by decide +kernel⟩, List.mem_of_getElem? (i := 592) (by decide +kernel), List.mem_of_getElem? (i := 709) (by decide +kernel), List.mem_of_getElem? (i := 710) (by decide +kernel)⟩
theorem lw_p13 : lw_okq (⟨"TalliedWindowsModel", "copyRow", "(II)V"⟩, 23) := ⟨⟨by decide +kernel, by decide +kernel⟩, List.mem_of_getElem? (i := 592) (by decide +kernel), List.mem_of_getElem? (i := 713) (by decide +kernel), List.mem_of_getElem? (i := 714) (by decide +kernel)⟩
theorem lw_p14 : lw_okq (⟨"TalliedWindowsModel", "layPicture", "()V"⟩, 23) := ⟨⟨by decide +kernel, by decide +kernel⟩, List.mem_of_getElem? (i := 592) (by decide +kernel), List.mem_of_getElem? (i := 717) (by decide +kernel), List.mem_of_getElem? (i := 718) (by decide +kernel)⟩
theorem lw_p15 : lw_okq (⟨"TalliedWindowsModel", "place", "(II)I"⟩, 23) := ⟨⟨by decide +kernel, by decide +kernel⟩, List.mem_of_getElem? (i := 592) (by decide +kernel), List.mem_of_getElem? (i := 721) (by decide +kernel), List.mem_of_getElem? (i := 722) (by decide +kernel)⟩
def lw_privs_1 : List (MethodName × Nat) := [(⟨"TalliedWindows$Reader", "takeFirstSign", "(I)I"⟩, 6), (⟨"TalliedWindows$Reader", "takeSecondSign", "(I)I"⟩, 6), (⟨"TalliedWindows$Window", "countRow", "(LTalliedWindows$Picture;LTalliedWindows$Filter;III)V"⟩, 3), (⟨"TalliedWindows$Window", "count", "(II)V"⟩, 3), (⟨"TalliedWindows", "lastOf", "(LTalliedWindows$Filter;II)I"⟩, 10), (⟨"TalliedWindows", "apply", "(LTalliedWindows$Filter;)I"⟩, 10), (⟨"TalliedWindows$State", "draw", "(I)I"⟩, 4), (⟨"TalliedWindowsModel", "readText", "()I"⟩, 23), (⟨"TalliedWindowsModel", "faultOf", "(I)I"⟩, 23), (⟨"TalliedWindowsModel", "faultOfBreak", "()I"⟩, 23), (⟨"TalliedWindowsModel", "isShort", "()Z"⟩, 23), (⟨"TalliedWindowsModel", "goOn", "(I)V"⟩, 23), (⟨"TalliedWindowsModel", "remember", "()V"⟩, 23), (⟨"TalliedWindowsModel", "copyRow", "(II)V"⟩, 23), (⟨"TalliedWindowsModel", "layPicture", "()V"⟩, 23), (⟨"TalliedWindowsModel", "place", "(II)I"⟩, 23)]
theorem lw_r1 : ∀ q ∈ lw_privs_1, lw_okq q := List.forall_mem_cons.mpr ⟨lw_p0, List.forall_mem_cons.mpr ⟨lw_p1, List.forall_mem_cons.mpr ⟨lw_p2, List.forall_mem_cons.mpr ⟨lw_p3, List.forall_mem_cons.mpr ⟨lw_p4, List.forall_mem_cons.mpr ⟨lw_p5, List.forall_mem_cons.mpr ⟨lw_p6, List.forall_mem_cons.mpr ⟨lw_p7, List.forall_mem_cons.mpr ⟨lw_p8, List.forall_mem_cons.mpr ⟨lw_p9, List.forall_mem_cons.mpr ⟨lw_p10, List.forall_mem_cons.mpr ⟨lw_p11, List.forall_mem_cons.mpr ⟨lw_p12, List.forall_mem_cons.mpr ⟨lw_p13, List.forall_mem_cons.mpr ⟨lw_p14, List.forall_mem_cons.mpr ⟨lw_p15, fun _ h => absurd h List.not_mem_nil⟩⟩⟩⟩⟩⟩⟩⟩⟩⟩⟩⟩⟩⟩⟩⟩
theorem lw_p16 : lw_okq (⟨"TalliedWindowsModel", "masked", "()I"⟩, 23) := ⟨⟨by decide +kernel, by decide +kernel⟩, List.mem_of_getElem? (i := 592) (by decide +kernel), List.mem_of_getElem? (i := 733) (by decide +kernel), List.mem_of_getElem? (i := 734) (by decide +kernel)⟩
theorem lw_p17 : lw_okq (⟨"TalliedWindowsModel", "isMasked", "(II)Z"⟩, 23) := ⟨⟨by decide +kernel, by decide +kernel⟩, List.mem_of_getElem? (i := 592) (by decide +kernel), List.mem_of_getElem? (i := 737) (by decide +kernel), List.mem_of_getElem? (i := 738) (by decide +kernel)⟩
theorem lw_p18 : lw_okq (⟨"TalliedWindowsModel", "ofGreys", "(I)I"⟩, 23) := ⟨⟨by decide +kernel, by decide +kernel⟩, List.mem_of_getElem? (i := 592) (by decide +kernel), List.mem_of_getElem? (i := 741) (by decide +kernel), List.mem_of_getElem? (i := 742) (by decide +kernel)⟩
theorem lw_p19 : lw_okq (⟨"TalliedWindowsModel", "grey", "(II)I"⟩, 23) := ⟨⟨by decide +kernel, by decide +kernel⟩, List.mem_of_getElem? (i := 592) (by decide +kernel), List.mem_of_getElem? (i := 745) (by decide +kernel), List.mem_of_getElem? (i := 746) (by decide +kernel)⟩
theorem lw_p20 : lw_okq (⟨"TalliedWindowsModel", "wrong", "()I"⟩, 23) := ⟨⟨by decide +kernel, by decide +kernel⟩, List.mem_of_getElem? (i := 592) (by decide +kernel), List.mem_of_getElem? (i := 749) (by decide +kernel), List.mem_of_getElem? (i := 750) (by decide +kernel)⟩
theorem lw_p21 : lw_okq (⟨"TalliedWindowsModel", "isDot", "(II)Z"⟩, 23) := ⟨⟨by decide +kernel, by decide +kernel⟩, List.mem_of_getElem? (i := 592) (by decide +kernel), List.mem_of_getElem? (i := 753) (by decide +kernel), List.mem_of_getElem? (i := 754) (by decide +kernel)⟩
theorem lw_p22 : lw_okq (⟨"TalliedWindowsModel", "isFilter", "(I)Z"⟩, 23) := ⟨⟨by decide +kernel, by decide +kernel⟩, List.mem_of_getElem? (i := 592) (by decide +kernel), List.mem_of_getElem? (i := 779) (by decide +kernel), List.mem_of_getElem? (i := 780) (by decide +kernel)⟩
theorem lw_p23 : lw_okq (⟨"TalliedWindowsModel", "lastOf", "(III)I"⟩, 23) := ⟨⟨by decide +kernel, by decide +kernel⟩, List.mem_of_getElem? (i := 592) (by decide +kernel), List.mem_of_getElem? (i := 791) (by decide +kernel), List.mem_of_getElem? (i := 792) (by decide +kernel)⟩
theorem lw_p24 : lw_okq (⟨"TalliedWindowsModel", "layWindow", "(III)V"⟩, 23) := ⟨⟨by decide +kernel, by decide +kernel⟩, List.mem_of_getElem? (i := 592) (by decide +kernel), List.mem_of_getElem? (i := 795) (by decide +kernel), List.mem_of_getElem? (i := 796) (by decide +kernel)⟩
theorem lw_p25 : lw_okq (⟨"TalliedWindowsModel", "part", "(II)I"⟩, 23) := ⟨⟨by decide +kernel, by decide +kernel⟩, List.mem_of_getElem? (i := 592) (by decide +kernel), List.mem_of_getElem? (i := 799) (by decide +kernel), List.mem_of_getElem? (i := 800) (by decide +kernel)⟩
theorem lw_p26 : lw_okq (⟨"TalliedWindowsModel", "countAt", "(IIIZ)V"⟩, 23) := ⟨⟨by decide +kernel, by decide +kernel⟩, List.mem_of_getElem? (i := 592) (by decide +kernel), List.mem_of_getElem? (i := 803) (by decide +kernel), List.mem_of_getElem? (i := 804) (by decide +kernel)⟩
theorem lw_p27 : lw_okq (⟨"TalliedWindowsModel", "countOut", "(III)V"⟩, 23) := ⟨⟨by decide +kernel, by decide +kernel⟩, List.mem_of_getElem? (i := 592) (by decide +kernel), List.mem_of_getElem? (i := 807) (by decide +kernel), List.mem_of_getElem? (i := 808) (by decide +kernel)⟩
theorem lw_p28 : lw_okq (⟨"TalliedWindowsModel", "count", "(I)V"⟩, 23) := ⟨⟨by decide +kernel, by decide +kernel⟩, List.mem_of_getElem? (i := 592) (by decide +kernel), List.mem_of_getElem? (i := 811) (by decide +kernel), List.mem_of_getElem? (i := 812) (by decide +kernel)⟩
theorem lw_p29 : lw_okq (⟨"TalliedWindowsModel", "below", "(I)I"⟩, 23) := ⟨⟨by decide +kernel, by decide +kernel⟩, List.mem_of_getElem? (i := 592) (by decide +kernel), List.mem_of_getElem? (i := 821) (by decide +kernel), List.mem_of_getElem? (i := 822) (by decide +kernel)⟩
theorem lw_p30 : lw_okq (⟨"TalliedWindowsModel", "setGrey", "(III)V"⟩, 23) := ⟨⟨by decide +kernel, by decide +kernel⟩, List.mem_of_getElem? (i := 592) (by decide +kernel), List.mem_of_getElem? (i := 837) (by decide +kernel), List.mem_of_getElem? (i := 838) (by decide +kernel)⟩
theorem lw_p31 : lw_okq (⟨"TalliedWindowsModel", "turnedFrom", "(III)I"⟩, 23) := ⟨⟨by decide +kernel, by decide +kernel⟩, List.mem_of_getElem? (i := 592) (by decide +kernel), List.mem_of_getElem? (i := 851) (by decide +kernel), List.mem_of_getElem? (i := 852) (by decide +kernel)⟩
def lw_privs_2 : List (MethodName × Nat) := [(⟨"TalliedWindowsModel", "masked", "()I"⟩, 23), (⟨"TalliedWindowsModel", "isMasked", "(II)Z"⟩, 23), (⟨"TalliedWindowsModel", "ofGreys", "(I)I"⟩, 23), (⟨"TalliedWindowsModel", "grey", "(II)I"⟩, 23), (⟨"TalliedWindowsModel", "wrong", "()I"⟩, 23), (⟨"TalliedWindowsModel", "isDot", "(II)Z"⟩, 23), (⟨"TalliedWindowsModel", "isFilter", "(I)Z"⟩, 23), (⟨"TalliedWindowsModel", "lastOf", "(III)I"⟩, 23), (⟨"TalliedWindowsModel", "layWindow", "(III)V"⟩, 23), (⟨"TalliedWindowsModel", "part", "(II)I"⟩, 23), (⟨"TalliedWindowsModel", "countAt", "(IIIZ)V"⟩, 23), (⟨"TalliedWindowsModel", "countOut", "(III)V"⟩, 23), (⟨"TalliedWindowsModel", "count", "(I)V"⟩, 23), (⟨"TalliedWindowsModel", "below", "(I)I"⟩, 23), (⟨"TalliedWindowsModel", "setGrey", "(III)V"⟩, 23), (⟨"TalliedWindowsModel", "turnedFrom", "(III)I"⟩, 23)]
theorem lw_r2 : ∀ q ∈ lw_privs_2, lw_okq q := List.forall_mem_cons.mpr ⟨lw_p16, List.forall_mem_cons.mpr ⟨lw_p17, List.forall_mem_cons.mpr ⟨lw_p18, List.forall_mem_cons.mpr ⟨lw_p19, List.forall_mem_cons.mpr ⟨lw_p20, List.forall_mem_cons.mpr ⟨lw_p21, List.forall_mem_cons.mpr ⟨lw_p22, List.forall_mem_cons.mpr ⟨lw_p23, List.forall_mem_cons.mpr ⟨lw_p24, List.forall_mem_cons.mpr ⟨lw_p25, List.forall_mem_cons.mpr ⟨lw_p26, List.forall_mem_cons.mpr ⟨lw_p27, List.forall_mem_cons.mpr ⟨lw_p28, List.forall_mem_cons.mpr ⟨lw_p29, List.forall_mem_cons.mpr ⟨lw_p30, List.forall_mem_cons.mpr ⟨lw_p31, fun _ h => absurd h List.not_mem_nil⟩⟩⟩⟩⟩⟩⟩⟩⟩⟩⟩⟩⟩⟩⟩⟩
theorem lw_p32 : lw_okq (⟨"TalliedWindowsModel", "applyNow", "(I)I"⟩, 23) := ⟨⟨by decide +kernel, by decide +kernel⟩, List.mem_of_getElem? (i := 592) (by decide +kernel), List.mem_of_getElem? (i := 859) (by decide +kernel), List.mem_of_getElem? (i := 860) (by decide +kernel)⟩
theorem lw_p33 : lw_okq (⟨"TalliedWindowsModel", "draw", "(I)I"⟩, 23) := ⟨⟨by decide +kernel, by decide +kernel⟩, List.mem_of_getElem? (i := 592) (by decide +kernel), List.mem_of_getElem? (i := 877) (by decide +kernel), List.mem_of_getElem? (i := 878) (by decide +kernel)⟩
theorem lw_p34 : lw_okq (⟨"TalliedWindowsModel", "isKept", "(I)Z"⟩, 23) := ⟨⟨by decide +kernel, by decide +kernel⟩, List.mem_of_getElem? (i := 592) (by decide +kernel), List.mem_of_getElem? (i := 910) (by decide +kernel), List.mem_of_getElem? (i := 911) (by decide +kernel)⟩
def lw_privs_3 : List (MethodName × Nat) := [(⟨"TalliedWindowsModel", "applyNow", "(I)I"⟩, 23), (⟨"TalliedWindowsModel", "draw", "(I)I"⟩, 23), (⟨"TalliedWindowsModel", "isKept", "(I)Z"⟩, 23)]
theorem lw_r3 : ∀ q ∈ lw_privs_3, lw_okq q := List.forall_mem_cons.mpr ⟨lw_p32, List.forall_mem_cons.mpr ⟨lw_p33, List.forall_mem_cons.mpr ⟨lw_p34, fun _ h => absurd h List.not_mem_nil⟩⟩⟩
def lw_privs : List (MethodName × Nat) := lw_privs_1 ++ (lw_privs_2 ++ (lw_privs_3))
def lw_tbl : List Cond := k2_sels lw_privs ++ tables_1
theorem lw_privs_ok : ∀ q ∈ lw_privs, lw_okq q := by
  show ∀ q ∈ lw_privs_1 ++ (lw_privs_2 ++ (lw_privs_3)), lw_okq q
  exact List.forall_mem_append.mpr ⟨lw_r1, List.forall_mem_append.mpr ⟨lw_r2, lw_r3⟩⟩
end
section
def RX0 : String := "TalliedWindows$Book"
def TX0 : u_T := fun k => match k with
  | 0 => ("TalliedWindows$Book", "count", "I", false)
  | 1 => ("TalliedWindows$Book", "xs", "[I", true)
  | 2 => ("TalliedWindows$Book", "ys", "[I", true)
  | _ => ("TalliedWindows$Book", "greys", "[I", true)
def tyX0 : Nat → FieldType := fun k => match k with
  | 0 => .int
  | 1 => .array .int
  | 2 => .array .int
  | _ => .array .int
abbrev wsX00 : List Cond := u_ws RX0 TX0 4
theorem nmX0 : ∀ a, a < 4 → ∀ b, b < 4 → a ≠ b → (TX0 a).2.1 ≠ (TX0 b).2.1 := by decide +kernel
theorem tyX0_ok : ∀ k, k < 4 → parseFieldDescriptor (TX0 k).2.2.1 = some (tyX0 k) := by decide +kernel
abbrev cX0_init : ByteArray := prog_2_method_1_code
def yX0_init : MethodName := ⟨RX0, "<init>", "()V"⟩
abbrev cX0_add : ByteArray := prog_2_method_2_code
def yX0_add : MethodName := ⟨RX0, "add", "(III)I"⟩
abbrev cX0_firstWrong : ByteArray := prog_2_method_3_code
def yX0_firstWrong : MethodName := ⟨RX0, "firstWrong", "(LTalliedWindows$Picture;)I"⟩
def RX1 : String := "TalliedWindows$Filter"
def TX1 : u_T := fun k => match k with
  | 0 => ("TalliedWindows$Filter", "across", "I", true)
  | 1 => ("TalliedWindows$Filter", "down", "I", true)
  | 2 => ("TalliedWindows$Filter", "rank", "I", true)
  | 3 => ("TalliedWindows$Filter", "border", "I", true)
  | _ => ("TalliedWindows$Filter", "weight", "I", true)
def tyX1 : Nat → FieldType := fun k => match k with
  | 0 => .int
  | 1 => .int
  | 2 => .int
  | 3 => .int
  | _ => .int
abbrev wsX10 : List Cond := u_ws RX1 TX1 5
theorem nmX1 : ∀ a, a < 5 → ∀ b, b < 5 → a ≠ b → (TX1 a).2.1 ≠ (TX1 b).2.1 := by decide +kernel
theorem tyX1_ok : ∀ k, k < 5 → parseFieldDescriptor (TX1 k).2.2.1 = some (tyX1 k) := by decide +kernel
abbrev cX1_init : ByteArray := prog_3_method_1_code
def yX1_init : MethodName := ⟨RX1, "<init>", "(IIIII)V"⟩
def RX2 : String := "TalliedWindows$Filters"
def TX2 : u_T := fun k => match k with
  | 0 => ("TalliedWindows$Filters", "count", "I", false)
  | _ => ("TalliedWindows$Filters", "inOrder", "[LTalliedWindows$Filter;", true)
def tyX2 : Nat → FieldType := fun k => match k with
  | 0 => .int
  | _ => .array (.object "TalliedWindows$Filter")
abbrev wsX20 : List Cond := u_ws RX2 TX2 2
theorem nmX2 : ∀ a, a < 2 → ∀ b, b < 2 → a ≠ b → (TX2 a).2.1 ≠ (TX2 b).2.1 := by decide +kernel
theorem tyX2_ok : ∀ k, k < 2 → parseFieldDescriptor (TX2 k).2.2.1 = some (tyX2 k) := by decide +kernel
abbrev cX2_init : ByteArray := prog_4_method_1_code
def yX2_init : MethodName := ⟨RX2, "<init>", "()V"⟩
abbrev cX2_isFull : ByteArray := prog_4_method_2_code
def yX2_isFull : MethodName := ⟨RX2, "isFull", "()Z"⟩
abbrev cX2_numbered : ByteArray := prog_4_method_3_code
def yX2_numbered : MethodName := ⟨RX2, "numbered", "(I)LTalliedWindows$Filter;"⟩
abbrev cX2_add : ByteArray := prog_4_method_4_code
def yX2_add : MethodName := ⟨RX2, "add", "(LTalliedWindows$Filter;)I"⟩
abbrev cX2_remove : ByteArray := prog_4_method_5_code
def yX2_remove : MethodName := ⟨RX2, "remove", "(I)I"⟩
abbrev cX2_become : ByteArray := prog_4_method_6_code
def yX2_become : MethodName := ⟨RX2, "become", "(LTalliedWindows$Filters;)V"⟩
def RX3 : String := "TalliedWindows$History"
def TX3 : u_T := fun k => match k with
  | 0 => ("TalliedWindows$History", "count", "I", false)
  | 1 => ("TalliedWindows$History", "oldest", "I", false)
  | _ => ("TalliedWindows$History", "ring", "[LTalliedWindows$Picture;", true)
def tyX3 : Nat → FieldType := fun k => match k with
  | 0 => .int
  | 1 => .int
  | _ => .array (.object "TalliedWindows$Picture")
abbrev wsX30 : List Cond := u_ws RX3 TX3 3
theorem nmX3 : ∀ a, a < 3 → ∀ b, b < 3 → a ≠ b → (TX3 a).2.1 ≠ (TX3 b).2.1 := by decide +kernel
theorem tyX3_ok : ∀ k, k < 3 → parseFieldDescriptor (TX3 k).2.2.1 = some (tyX3 k) := by decide +kernel
abbrev cX3_init : ByteArray := prog_5_method_1_code
def yX3_init : MethodName := ⟨RX3, "<init>", "()V"⟩
abbrev cX3_remember : ByteArray := prog_5_method_2_code
def yX3_remember : MethodName := ⟨RX3, "remember", "(LTalliedWindows$Picture;)V"⟩
abbrev cX3_takeBack : ByteArray := prog_5_method_3_code
def yX3_takeBack : MethodName := ⟨RX3, "takeBack", "(ILTalliedWindows$Picture;)V"⟩
abbrev cX3_forget : ByteArray := prog_5_method_4_code
def yX3_forget : MethodName := ⟨RX3, "forget", "()V"⟩
def RX4 : String := "TalliedWindows$Picture"
def TX4 : u_T := fun k => match k with
  | 0 => ("TalliedWindows$Picture", "width", "I", false)
  | 1 => ("TalliedWindows$Picture", "height", "I", false)
  | 2 => ("TalliedWindows$Picture", "greys", "[I", true)
  | _ => ("TalliedWindows$Picture", "masks", "[Z", true)
def tyX4 : Nat → FieldType := fun k => match k with
  | 0 => .int
  | 1 => .int
  | 2 => .array .int
  | _ => .array .boolean
abbrev wsX40 : List Cond := u_ws RX4 TX4 4
theorem nmX4 : ∀ a, a < 4 → ∀ b, b < 4 → a ≠ b → (TX4 a).2.1 ≠ (TX4 b).2.1 := by decide +kernel
theorem tyX4_ok : ∀ k, k < 4 → parseFieldDescriptor (TX4 k).2.2.1 = some (tyX4 k) := by decide +kernel
abbrev cX4_init : ByteArray := prog_6_method_1_code
def yX4_init : MethodName := ⟨RX4, "<init>", "()V"⟩
abbrev cX4_dots : ByteArray := prog_6_method_2_code
def yX4_dots : MethodName := ⟨RX4, "dots", "()I"⟩
abbrev cX4_has : ByteArray := prog_6_method_3_code
def yX4_has : MethodName := ⟨RX4, "has", "(II)Z"⟩
abbrev cX4_greyOf : ByteArray := prog_6_method_4_code
def yX4_greyOf : MethodName := ⟨RX4, "greyOf", "(II)I"⟩
abbrev cX4_isMasked : ByteArray := prog_6_method_5_code
def yX4_isMasked : MethodName := ⟨RX4, "isMasked", "(II)Z"⟩
abbrev cX4_setGrey : ByteArray := prog_6_method_6_code
def yX4_setGrey : MethodName := ⟨RX4, "setGrey", "(III)V"⟩
abbrev cX4_setMasked : ByteArray := prog_6_method_7_code
def yX4_setMasked : MethodName := ⟨RX4, "setMasked", "(IIZ)V"⟩
abbrev cX4_setInOrder : ByteArray := prog_6_method_8_code
def yX4_setInOrder : MethodName := ⟨RX4, "setInOrder", "(IIZ)V"⟩
abbrev cX4_setSize : ByteArray := prog_6_method_9_code
def yX4_setSize : MethodName := ⟨RX4, "setSize", "(II)V"⟩
abbrev cX4_become : ByteArray := prog_6_method_10_code
def yX4_become : MethodName := ⟨RX4, "become", "(LTalliedWindows$Picture;)V"⟩
abbrev cX4_becomeTurned : ByteArray := prog_6_method_11_code
def yX4_becomeTurned : MethodName := ⟨RX4, "becomeTurned", "(LTalliedWindows$Picture;I)V"⟩
abbrev cX4_maskedDots : ByteArray := prog_6_method_12_code
def yX4_maskedDots : MethodName := ⟨RX4, "maskedDots", "()I"⟩
abbrev cX4_leastGrey : ByteArray := prog_6_method_13_code
def yX4_leastGrey : MethodName := ⟨RX4, "leastGrey", "()I"⟩
abbrev cX4_greatestGrey : ByteArray := prog_6_method_14_code
def yX4_greatestGrey : MethodName := ⟨RX4, "greatestGrey", "()I"⟩
abbrev cX4_greysTogether : ByteArray := prog_6_method_15_code
def yX4_greysTogether : MethodName := ⟨RX4, "greysTogether", "()I"⟩
abbrev cX4_dotsUpTo : ByteArray := prog_6_method_16_code
def yX4_dotsUpTo : MethodName := ⟨RX4, "dotsUpTo", "(IIIII)I"⟩
abbrev cX4_greysOtherThan : ByteArray := prog_6_method_17_code
def yX4_greysOtherThan : MethodName := ⟨RX4, "greysOtherThan", "(LTalliedWindows$Picture;)I"⟩
abbrev cX4_dotsOtherThan : ByteArray := prog_6_method_18_code
def yX4_dotsOtherThan : MethodName := ⟨RX4, "dotsOtherThan", "(LTalliedWindows$Picture;)I"⟩
def RX5 : String := "TalliedWindows$Reader"
def TX5 : u_T := fun k => match k with
  | 0 => ("TalliedWindows$Reader", "into", "LTalliedWindows$Picture;", true)
  | 1 => ("TalliedWindows$Reader", "dotsRead", "I", false)
  | 2 => ("TalliedWindows$Reader", "width", "I", false)
  | 3 => ("TalliedWindows$Reader", "row", "I", false)
  | 4 => ("TalliedWindows$Reader", "column", "I", false)
  | _ => ("TalliedWindows$Reader", "firstSign", "I", false)
def tyX5 : Nat → FieldType := fun k => match k with
  | 0 => .object "TalliedWindows$Picture"
  | 1 => .int
  | 2 => .int
  | 3 => .int
  | 4 => .int
  | _ => .int
abbrev wsX50 : List Cond := u_ws RX5 TX5 6
theorem nmX5 : ∀ a, a < 6 → ∀ b, b < 6 → a ≠ b → (TX5 a).2.1 ≠ (TX5 b).2.1 := by decide +kernel
theorem tyX5_ok : ∀ k, k < 6 → parseFieldDescriptor (TX5 k).2.2.1 = some (tyX5 k) := by decide +kernel
abbrev cX5_init : ByteArray := prog_7_method_1_code
def yX5_init : MethodName := ⟨RX5, "<init>", "(LTalliedWindows$Picture;)V"⟩
abbrev cX5_take : ByteArray := prog_7_method_2_code
def yX5_take : MethodName := ⟨RX5, "take", "(I)I"⟩
abbrev cX5_takeRowEnd : ByteArray := prog_7_method_3_code
def yX5_takeRowEnd : MethodName := ⟨RX5, "takeRowEnd", "(Z)I"⟩
abbrev cX5_takeFirstSign : ByteArray := prog_7_method_4_code
def yX5_takeFirstSign : MethodName := ⟨RX5, "takeFirstSign", "(I)I"⟩
abbrev cX5_takeSecondSign : ByteArray := prog_7_method_5_code
def yX5_takeSecondSign : MethodName := ⟨RX5, "takeSecondSign", "(I)I"⟩
abbrev cX5_signOf : ByteArray := prog_7_method_6_code
def yX5_signOf : MethodName := ⟨RX5, "signOf", "(I)I"⟩
def RX6 : String := "TalliedWindows$State"
def TX6 : u_T := fun k => match k with
  | 0 => ("TalliedWindows$State", "picture", "LTalliedWindows$Picture;", true)
  | 1 => ("TalliedWindows$State", "filters", "LTalliedWindows$Filters;", true)
  | 2 => ("TalliedWindows$State", "fillGrey", "I", false)
  | _ => ("TalliedWindows$State", "seed", "I", false)
def tyX6 : Nat → FieldType := fun k => match k with
  | 0 => .object "TalliedWindows$Picture"
  | 1 => .object "TalliedWindows$Filters"
  | 2 => .int
  | _ => .int
abbrev wsX60 : List Cond := u_ws RX6 TX6 4
theorem nmX6 : ∀ a, a < 4 → ∀ b, b < 4 → a ≠ b → (TX6 a).2.1 ≠ (TX6 b).2.1 := by decide +kernel
theorem tyX6_ok : ∀ k, k < 4 → parseFieldDescriptor (TX6 k).2.2.1 = some (tyX6 k) := by decide +kernel
abbrev cX6_init : ByteArray := prog_8_method_1_code
def yX6_init : MethodName := ⟨RX6, "<init>", "()V"⟩
abbrev cX6_become : ByteArray := prog_8_method_2_code
def yX6_become : MethodName := ⟨RX6, "become", "(LTalliedWindows$State;)V"⟩
abbrev cX6_speckle : ByteArray := prog_8_method_3_code
def yX6_speckle : MethodName := ⟨RX6, "speckle", "()V"⟩
abbrev cX6_draw : ByteArray := prog_8_method_4_code
def yX6_draw : MethodName := ⟨RX6, "draw", "(I)I"⟩
def RX7 : String := "TalliedWindows$Text"
def TX7 : u_T := fun k => match k with
  | 0 => ("TalliedWindows$Text", "length", "I", false)
  | 1 => ("TalliedWindows$Text", "letters", "[I", true)
  | _ => ("TalliedWindows$Text", "place", "I", false)
def tyX7 : Nat → FieldType := fun k => match k with
  | 0 => .int
  | 1 => .array .int
  | _ => .int
abbrev wsX70 : List Cond := u_ws RX7 TX7 3
theorem nmX7 : ∀ a, a < 3 → ∀ b, b < 3 → a ≠ b → (TX7 a).2.1 ≠ (TX7 b).2.1 := by decide +kernel
theorem tyX7_ok : ∀ k, k < 3 → parseFieldDescriptor (TX7 k).2.2.1 = some (tyX7 k) := by decide +kernel
abbrev cX7_init : ByteArray := prog_9_method_1_code
def yX7_init : MethodName := ⟨RX7, "<init>", "()V"⟩
abbrev cX7_append : ByteArray := prog_9_method_2_code
def yX7_append : MethodName := ⟨RX7, "append", "(I)I"⟩
abbrev cX7_clear : ByteArray := prog_9_method_3_code
def yX7_clear : MethodName := ⟨RX7, "clear", "()V"⟩
abbrev cX7_placeRead : ByteArray := prog_9_method_4_code
def yX7_placeRead : MethodName := ⟨RX7, "placeRead", "()I"⟩
abbrev cX7_readInto : ByteArray := prog_9_method_5_code
def yX7_readInto : MethodName := ⟨RX7, "readInto", "(LTalliedWindows$Picture;)I"⟩
def RX8 : String := "TalliedWindows$Window"
def TX8 : u_T := fun k => match k with
  | 0 => ("TalliedWindows$Window", "counted", "I", false)
  | 1 => ("TalliedWindows$Window", "coarse", "[I", true)
  | _ => ("TalliedWindows$Window", "fine", "[I", true)
def tyX8 : Nat → FieldType := fun k => match k with
  | 0 => .int
  | 1 => .array .int
  | _ => .array .int
abbrev wsX80 : List Cond := u_ws RX8 TX8 3
theorem nmX8 : ∀ a, a < 3 → ∀ b, b < 3 → a ≠ b → (TX8 a).2.1 ≠ (TX8 b).2.1 := by decide +kernel
theorem tyX8_ok : ∀ k, k < 3 → parseFieldDescriptor (TX8 k).2.2.1 = some (tyX8 k) := by decide +kernel
abbrev cX8_init : ByteArray := prog_10_method_1_code
def yX8_init : MethodName := ⟨RX8, "<init>", "()V"⟩
abbrev cX8_lookAt : ByteArray := prog_10_method_2_code
def yX8_lookAt : MethodName := ⟨RX8, "lookAt", "(LTalliedWindows$Picture;LTalliedWindows$Filter;III)V"⟩
abbrev cX8_ranked : ByteArray := prog_10_method_3_code
def yX8_ranked : MethodName := ⟨RX8, "ranked", "(I)I"⟩
abbrev cX8_countedBelow : ByteArray := prog_10_method_4_code
def yX8_countedBelow : MethodName := ⟨RX8, "countedBelow", "(I)I"⟩
abbrev cX8_spread : ByteArray := prog_10_method_5_code
def yX8_spread : MethodName := ⟨RX8, "spread", "()I"⟩
abbrev cX8_countRow : ByteArray := prog_10_method_6_code
def yX8_countRow : MethodName := ⟨RX8, "countRow", "(LTalliedWindows$Picture;LTalliedWindows$Filter;III)V"⟩
abbrev cX8_count : ByteArray := prog_10_method_7_code
def yX8_count : MethodName := ⟨RX8, "count", "(II)V"⟩
abbrev cX8_standingFor : ByteArray := prog_10_method_8_code
def yX8_standingFor : MethodName := ⟨RX8, "standingFor", "(III)I"⟩
def RX9 : String := "TalliedWindows"
def TX9 : u_T := fun k => match k with
  | 0 => ("TalliedWindows", "text", "LTalliedWindows$Text;", true)
  | 1 => ("TalliedWindows", "now", "LTalliedWindows$State;", true)
  | 2 => ("TalliedWindows", "images", "[LTalliedWindows$State;", true)
  | 3 => ("TalliedWindows", "wasKept", "[Z", true)
  | 4 => ("TalliedWindows", "history", "LTalliedWindows$History;", true)
  | 5 => ("TalliedWindows", "book", "LTalliedWindows$Book;", true)
  | 6 => ("TalliedWindows", "window", "LTalliedWindows$Window;", true)
  | 7 => ("TalliedWindows", "spare", "LTalliedWindows$Picture;", true)
  | 8 => ("TalliedWindows", "ahead", "LTalliedWindows$Picture;", true)
  | _ => ("TalliedWindows", "faultPlace", "I", false)
def tyX9 : Nat → FieldType := fun k => match k with
  | 0 => .object "TalliedWindows$Text"
  | 1 => .object "TalliedWindows$State"
  | 2 => .array (.object "TalliedWindows$State")
  | 3 => .array .boolean
  | 4 => .object "TalliedWindows$History"
  | 5 => .object "TalliedWindows$Book"
  | 6 => .object "TalliedWindows$Window"
  | 7 => .object "TalliedWindows$Picture"
  | 8 => .object "TalliedWindows$Picture"
  | _ => .int
abbrev wsX90 : List Cond := u_ws RX9 TX9 10
theorem nmX9 : ∀ a, a < 10 → ∀ b, b < 10 → a ≠ b → (TX9 a).2.1 ≠ (TX9 b).2.1 := by decide +kernel
theorem tyX9_ok : ∀ k, k < 10 → parseFieldDescriptor (TX9 k).2.2.1 = some (tyX9 k) := by decide +kernel
abbrev cX9_init : ByteArray := prog_1_method_1_code
def yX9_init : MethodName := ⟨RX9, "<init>", "()V"⟩
abbrev cX9_feed : ByteArray := prog_1_method_2_code
def yX9_feed : MethodName := ⟨RX9, "feed", "(I)I"⟩
abbrev cX9_picture : ByteArray := prog_1_method_3_code
def yX9_picture : MethodName := ⟨RX9, "picture", "()I"⟩
abbrev cX9_fault : ByteArray := prog_1_method_4_code
def yX9_fault : MethodName := ⟨RX9, "fault", "()I"⟩
abbrev cX9_told : ByteArray := prog_1_method_5_code
def yX9_told : MethodName := ⟨RX9, "told", "(I)I"⟩
abbrev cX9_at : ByteArray := prog_1_method_6_code
def yX9_at : MethodName := ⟨RX9, "at", "(III)I"⟩
abbrev cX9_tally : ByteArray := prog_1_method_7_code
def yX9_tally : MethodName := ⟨RX9, "tally", "(IIIII)I"⟩
abbrev cX9_filter : ByteArray := prog_1_method_8_code
def yX9_filter : MethodName := ⟨RX9, "filter", "(IIIII)I"⟩
abbrev cX9_drop : ByteArray := prog_1_method_9_code
def yX9_drop : MethodName := ⟨RX9, "drop", "(I)I"⟩
abbrev cX9_fill : ByteArray := prog_1_method_10_code
def yX9_fill : MethodName := ⟨RX9, "fill", "(I)I"⟩
abbrev cX9_would : ByteArray := prog_1_method_11_code
def yX9_would : MethodName := ⟨RX9, "would", "(IIII)I"⟩
abbrev cX9_bins : ByteArray := prog_1_method_12_code
def yX9_bins : MethodName := ⟨RX9, "bins", "(I)I"⟩
abbrev cX9_spikes : ByteArray := prog_1_method_13_code
def yX9_spikes : MethodName := ⟨RX9, "spikes", "(II)I"⟩
abbrev cX9_dot : ByteArray := prog_1_method_14_code
def yX9_dot : MethodName := ⟨RX9, "dot", "(III)I"⟩
abbrev cX9_mask : ByteArray := prog_1_method_15_code
def yX9_mask : MethodName := ⟨RX9, "mask", "(IIZ)I"⟩
abbrev cX9_turn : ByteArray := prog_1_method_16_code
def yX9_turn : MethodName := ⟨RX9, "turn", "(I)I"⟩
abbrev cX9_filtered : ByteArray := prog_1_method_17_code
def yX9_filtered : MethodName := ⟨RX9, "filtered", "(I)I"⟩
abbrev cX9_all : ByteArray := prog_1_method_18_code
def yX9_all : MethodName := ⟨RX9, "all", "()I"⟩
abbrev cX9_until : ByteArray := prog_1_method_19_code
def yX9_until : MethodName := ⟨RX9, "until", "(II)I"⟩
abbrev cX9_noise : ByteArray := prog_1_method_20_code
def yX9_noise : MethodName := ⟨RX9, "noise", "(I)I"⟩
abbrev cX9_undo : ByteArray := prog_1_method_21_code
def yX9_undo : MethodName := ⟨RX9, "undo", "(I)I"⟩
abbrev cX9_write : ByteArray := prog_1_method_22_code
def yX9_write : MethodName := ⟨RX9, "write", "(III)I"⟩
abbrev cX9_tear : ByteArray := prog_1_method_23_code
def yX9_tear : MethodName := ⟨RX9, "tear", "()I"⟩
abbrev cX9_seed : ByteArray := prog_1_method_24_code
def yX9_seed : MethodName := ⟨RX9, "seed", "(I)I"⟩
abbrev cX9_keep : ByteArray := prog_1_method_25_code
def yX9_keep : MethodName := ⟨RX9, "keep", "(I)I"⟩
abbrev cX9_goBack : ByteArray := prog_1_method_26_code
def yX9_goBack : MethodName := ⟨RX9, "goBack", "(I)I"⟩
abbrev cX9_against : ByteArray := prog_1_method_27_code
def yX9_against : MethodName := ⟨RX9, "against", "(I)I"⟩
abbrev cX9_within : ByteArray := prog_1_method_28_code
def yX9_within : MethodName := ⟨RX9, "within", "(III)Z"⟩
abbrev cX9_lastOf : ByteArray := prog_1_method_29_code
def yX9_lastOf : MethodName := ⟨RX9, "lastOf", "(LTalliedWindows$Filter;II)I"⟩
abbrev cX9_apply : ByteArray := prog_1_method_30_code
def yX9_apply : MethodName := ⟨RX9, "apply", "(LTalliedWindows$Filter;)I"⟩
def RX10 : String := "TalliedWindowsModel"
def TX10 : u_T := fun k => match k with
  | 0 => ("TalliedWindowsModel", "w", "[I", true)
  | 1 => ("TalliedWindowsModel", "known", "I", false)
  | 2 => ("TalliedWindowsModel", "kept", "I", false)
  | 3 => ("TalliedWindowsModel", "seed", "I", false)
  | 4 => ("TalliedWindowsModel", "text", "[I", true)
  | 5 => ("TalliedWindowsModel", "size", "I", false)
  | 6 => ("TalliedWindowsModel", "faultAt", "I", false)
  | 7 => ("TalliedWindowsModel", "filters", "[I", true)
  | 8 => ("TalliedWindowsModel", "fill", "I", false)
  | 9 => ("TalliedWindowsModel", "imageFilters", "[I", true)
  | 10 => ("TalliedWindowsModel", "imageFill", "[I", true)
  | 11 => ("TalliedWindowsModel", "imageSeed", "[I", true)
  | 12 => ("TalliedWindowsModel", "bookX", "[I", true)
  | 13 => ("TalliedWindowsModel", "bookY", "[I", true)
  | 14 => ("TalliedWindowsModel", "bookIs", "[I", true)
  | 15 => ("TalliedWindowsModel", "written", "I", false)
  | 16 => ("TalliedWindowsModel", "rows", "I", false)
  | 17 => ("TalliedWindowsModel", "inRow", "I", false)
  | 18 => ("TalliedWindowsModel", "wide", "I", false)
  | 19 => ("TalliedWindowsModel", "half", "I", false)
  | 20 => ("TalliedWindowsModel", "counted", "[I", true)
  | 21 => ("TalliedWindowsModel", "many", "I", false)
  | _ => ("TalliedWindowsModel", "next", "[I", true)
def tyX10 : Nat → FieldType := fun k => match k with
  | 0 => .array .int
  | 1 => .int
  | 2 => .int
  | 3 => .int
  | 4 => .array .int
  | 5 => .int
  | 6 => .int
  | 7 => .array .int
  | 8 => .int
  | 9 => .array .int
  | 10 => .array .int
  | 11 => .array .int
  | 12 => .array .int
  | 13 => .array .int
  | 14 => .array .int
  | 15 => .int
  | 16 => .int
  | 17 => .int
  | 18 => .int
  | 19 => .int
  | 20 => .array .int
  | 21 => .int
  | _ => .array .int
abbrev wsX100 : List Cond := u_ws RX10 TX10 23
theorem nmX10 : ∀ a, a < 23 → ∀ b, b < 23 → a ≠ b → (TX10 a).2.1 ≠ (TX10 b).2.1 := by decide +kernel
theorem tyX10_ok : ∀ k, k < 23 → parseFieldDescriptor (TX10 k).2.2.1 = some (tyX10 k) := by decide +kernel
abbrev cX10_init : ByteArray := prog_12_method_1_code
def yX10_init : MethodName := ⟨RX10, "<init>", "()V"⟩
abbrev cX10_in : ByteArray := prog_12_method_2_code
def yX10_in : MethodName := ⟨RX10, "in", "(JJJ)Z"⟩
abbrev cX10_copyRow : ByteArray := prog_12_method_3_code
def yX10_copyRow : MethodName := ⟨RX10, "copyRow", "(II)V"⟩
abbrev cX10_remember : ByteArray := prog_12_method_4_code
def yX10_remember : MethodName := ⟨RX10, "remember", "()V"⟩
abbrev cX10_place : ByteArray := prog_12_method_5_code
def yX10_place : MethodName := ⟨RX10, "place", "(II)I"⟩
abbrev cX10_grey : ByteArray := prog_12_method_6_code
def yX10_grey : MethodName := ⟨RX10, "grey", "(II)I"⟩
abbrev cX10_isMasked : ByteArray := prog_12_method_7_code
def yX10_isMasked : MethodName := ⟨RX10, "isMasked", "(II)Z"⟩
abbrev cX10_isDot : ByteArray := prog_12_method_8_code
def yX10_isDot : MethodName := ⟨RX10, "isDot", "(II)Z"⟩
abbrev cX10_setGrey : ByteArray := prog_12_method_9_code
def yX10_setGrey : MethodName := ⟨RX10, "setGrey", "(III)V"⟩
abbrev cX10_figure : ByteArray := prog_12_method_10_code
def yX10_figure : MethodName := ⟨RX10, "figure", "(I)I"⟩
abbrev cX10_isShort : ByteArray := prog_12_method_11_code
def yX10_isShort : MethodName := ⟨RX10, "isShort", "()Z"⟩
abbrev cX10_faultOfBreak : ByteArray := prog_12_method_12_code
def yX10_faultOfBreak : MethodName := ⟨RX10, "faultOfBreak", "()I"⟩
abbrev cX10_faultOf : ByteArray := prog_12_method_13_code
def yX10_faultOf : MethodName := ⟨RX10, "faultOf", "(I)I"⟩
abbrev cX10_goOn : ByteArray := prog_12_method_14_code
def yX10_goOn : MethodName := ⟨RX10, "goOn", "(I)V"⟩
abbrev cX10_readText : ByteArray := prog_12_method_15_code
def yX10_readText : MethodName := ⟨RX10, "readText", "()I"⟩
abbrev cX10_layPicture : ByteArray := prog_12_method_16_code
def yX10_layPicture : MethodName := ⟨RX10, "layPicture", "()V"⟩
abbrev cX10_feed : ByteArray := prog_12_method_17_code
def yX10_feed : MethodName := ⟨RX10, "feed", "(I)I"⟩
abbrev cX10_picture : ByteArray := prog_12_method_18_code
def yX10_picture : MethodName := ⟨RX10, "picture", "()I"⟩
abbrev cX10_fault : ByteArray := prog_12_method_19_code
def yX10_fault : MethodName := ⟨RX10, "fault", "()I"⟩
abbrev cX10_part : ByteArray := prog_12_method_20_code
def yX10_part : MethodName := ⟨RX10, "part", "(II)I"⟩
abbrev cX10_count : ByteArray := prog_12_method_21_code
def yX10_count : MethodName := ⟨RX10, "count", "(I)V"⟩
abbrev cX10_leftOver : ByteArray := prog_12_method_22_code
def yX10_leftOver : MethodName := ⟨RX10, "leftOver", "(II)I"⟩
abbrev cX10_standIn : ByteArray := prog_12_method_23_code
def yX10_standIn : MethodName := ⟨RX10, "standIn", "(III)I"⟩
abbrev cX10_countOut : ByteArray := prog_12_method_24_code
def yX10_countOut : MethodName := ⟨RX10, "countOut", "(III)V"⟩
abbrev cX10_countAt : ByteArray := prog_12_method_25_code
def yX10_countAt : MethodName := ⟨RX10, "countAt", "(IIIZ)V"⟩
abbrev cX10_layWindow : ByteArray := prog_12_method_26_code
def yX10_layWindow : MethodName := ⟨RX10, "layWindow", "(III)V"⟩
abbrev cX10_lastOf : ByteArray := prog_12_method_27_code
def yX10_lastOf : MethodName := ⟨RX10, "lastOf", "(III)I"⟩
abbrev cX10_applyNow : ByteArray := prog_12_method_28_code
def yX10_applyNow : MethodName := ⟨RX10, "applyNow", "(I)I"⟩
abbrev cX10_masked : ByteArray := prog_12_method_29_code
def yX10_masked : MethodName := ⟨RX10, "masked", "()I"⟩
abbrev cX10_ofGreys : ByteArray := prog_12_method_30_code
def yX10_ofGreys : MethodName := ⟨RX10, "ofGreys", "(I)I"⟩
abbrev cX10_wrong : ByteArray := prog_12_method_31_code
def yX10_wrong : MethodName := ⟨RX10, "wrong", "()I"⟩
abbrev cX10_told : ByteArray := prog_12_method_32_code
def yX10_told : MethodName := ⟨RX10, "told", "(I)I"⟩
abbrev cX10_at : ByteArray := prog_12_method_33_code
def yX10_at : MethodName := ⟨RX10, "at", "(III)I"⟩
abbrev cX10_tally : ByteArray := prog_12_method_34_code
def yX10_tally : MethodName := ⟨RX10, "tally", "(IIIII)I"⟩
abbrev cX10_filter : ByteArray := prog_12_method_35_code
def yX10_filter : MethodName := ⟨RX10, "filter", "(IIIII)I"⟩
abbrev cX10_isFilter : ByteArray := prog_12_method_36_code
def yX10_isFilter : MethodName := ⟨RX10, "isFilter", "(I)Z"⟩
abbrev cX10_drop : ByteArray := prog_12_method_37_code
def yX10_drop : MethodName := ⟨RX10, "drop", "(I)I"⟩
abbrev cX10_fill : ByteArray := prog_12_method_38_code
def yX10_fill : MethodName := ⟨RX10, "fill", "(I)I"⟩
abbrev cX10_below : ByteArray := prog_12_method_39_code
def yX10_below : MethodName := ⟨RX10, "below", "(I)I"⟩
abbrev cX10_would : ByteArray := prog_12_method_40_code
def yX10_would : MethodName := ⟨RX10, "would", "(IIII)I"⟩
abbrev cX10_bins : ByteArray := prog_12_method_41_code
def yX10_bins : MethodName := ⟨RX10, "bins", "(I)I"⟩
abbrev cX10_spikes : ByteArray := prog_12_method_42_code
def yX10_spikes : MethodName := ⟨RX10, "spikes", "(II)I"⟩
abbrev cX10_dot : ByteArray := prog_12_method_43_code
def yX10_dot : MethodName := ⟨RX10, "dot", "(III)I"⟩
abbrev cX10_mask : ByteArray := prog_12_method_44_code
def yX10_mask : MethodName := ⟨RX10, "mask", "(IIZ)I"⟩
abbrev cX10_turnedFrom : ByteArray := prog_12_method_45_code
def yX10_turnedFrom : MethodName := ⟨RX10, "turnedFrom", "(III)I"⟩
abbrev cX10_turn : ByteArray := prog_12_method_46_code
def yX10_turn : MethodName := ⟨RX10, "turn", "(I)I"⟩
abbrev cX10_filtered : ByteArray := prog_12_method_47_code
def yX10_filtered : MethodName := ⟨RX10, "filtered", "(I)I"⟩
abbrev cX10_all : ByteArray := prog_12_method_48_code
def yX10_all : MethodName := ⟨RX10, "all", "()I"⟩
abbrev cX10_until : ByteArray := prog_12_method_49_code
def yX10_until : MethodName := ⟨RX10, "until", "(II)I"⟩
abbrev cX10_draw : ByteArray := prog_12_method_50_code
def yX10_draw : MethodName := ⟨RX10, "draw", "(I)I"⟩
abbrev cX10_noise : ByteArray := prog_12_method_51_code
def yX10_noise : MethodName := ⟨RX10, "noise", "(I)I"⟩
abbrev cX10_undo : ByteArray := prog_12_method_52_code
def yX10_undo : MethodName := ⟨RX10, "undo", "(I)I"⟩
abbrev cX10_write : ByteArray := prog_12_method_53_code
def yX10_write : MethodName := ⟨RX10, "write", "(III)I"⟩
abbrev cX10_tear : ByteArray := prog_12_method_54_code
def yX10_tear : MethodName := ⟨RX10, "tear", "()I"⟩
abbrev cX10_seed : ByteArray := prog_12_method_55_code
def yX10_seed : MethodName := ⟨RX10, "seed", "(I)I"⟩
abbrev cX10_isKept : ByteArray := prog_12_method_56_code
def yX10_isKept : MethodName := ⟨RX10, "isKept", "(I)Z"⟩
abbrev cX10_keep : ByteArray := prog_12_method_57_code
def yX10_keep : MethodName := ⟨RX10, "keep", "(I)I"⟩
abbrev cX10_goBack : ByteArray := prog_12_method_58_code
def yX10_goBack : MethodName := ⟨RX10, "goBack", "(I)I"⟩
abbrev cX10_against : ByteArray := prog_12_method_59_code
def yX10_against : MethodName := ⟨RX10, "against", "(I)I"⟩
def RJ9 : String := "java/lang/Math"
def TJ9 : u_T := fun k => match k with
  | _ => ("", "", "", false)
def tyJ9 : Nat → FieldType := fun k => match k with
  | _ => .int
abbrev wsJ90 : List Cond := u_ws RJ9 TJ9 0
theorem nmJ9 : ∀ a, a < 0 → ∀ b, b < 0 → a ≠ b → (TJ9 a).2.1 ≠ (TJ9 b).2.1 := by decide +kernel
theorem tyJ9_ok : ∀ k, k < 0 → parseFieldDescriptor (TJ9 k).2.2.1 = some (tyJ9 k) := by decide +kernel
abbrev cJ9_floorMod_7cf53 : ByteArray := prog_13_method_50_code
def yJ9_floorMod_7cf53 : MethodName := ⟨RJ9, "floorMod", "(II)I"⟩
abbrev cJ9_abs_0f7a4 : ByteArray := prog_13_method_59_code
def yJ9_abs_0f7a4 : MethodName := ⟨RJ9, "abs", "(I)I"⟩
abbrev cJ9_min_7cf53 : ByteArray := prog_13_method_69_code
def yJ9_min_7cf53 : MethodName := ⟨RJ9, "min", "(II)I"⟩
def RJ7 : String := "java/util/Arrays"
def TJ7 : u_T := fun k => match k with
  | _ => ("", "", "", false)
def tyJ7 : Nat → FieldType := fun k => match k with
  | _ => .int
abbrev wsJ70 : List Cond := u_ws RJ7 TJ7 0
theorem nmJ7 : ∀ a, a < 0 → ∀ b, b < 0 → a ≠ b → (TJ7 a).2.1 ≠ (TJ7 b).2.1 := by decide +kernel
theorem tyJ7_ok : ∀ k, k < 0 → parseFieldDescriptor (TJ7 k).2.2.1 = some (tyJ7 k) := by decide +kernel
abbrev cJ7_fill_53178 : ByteArray := prog_14_method_103_code
def yJ7_fill_53178 : MethodName := ⟨RJ7, "fill", "([II)V"⟩
def RL : String := "TalliedWindowsLaw"
abbrev cL_law : ByteArray := code
def yL_law : MethodName := ⟨RL, "law", "([I)Z"⟩
abbrev vwCl : List vw_C := [(RX0, TX0, 4), (RX1, TX1, 5), (RX2, TX2, 2), (RX3, TX3, 3), (RX4, TX4, 4), (RX5, TX5, 6), (RX6, TX6, 4), (RX7, TX7, 3), (RX8, TX8, 3), (RX9, TX9, 10), (RX10, TX10, 23)]
end
section
/-! ===== THE ABSTRACT MACHINE: the cells made since the law began, by their places; a method's walk and contract over them ===== -/
abbrev ex_M : Type := MethodName × ByteArray × Nat × Option FieldType × Option (Nat × (Nat → Int32))
abbrev ex_C : Type := (FieldType × Nat × (Nat → Int32)) ⊕ (String × Nat × (Nat → Option Nat)) ⊕ (Nat × List Value)
abbrev ex_H : Type := List ex_C
abbrev ar (ty : FieldType) (n : Nat) (f : Nat → Int32) : ex_C := .inl (ty, n, f)
abbrev rr (C : String) (n : Nat) (f : Nat → Option Nat) : ex_C := .inr (.inl (C, n, f))
abbrev ob (ci : Nat) (fs : List Value) : ex_C := .inr (.inr (ci, fs))
abbrev ex_B : Type := Nat × Nat
def ex_v (b : ex_B) (v : Value) : Value := match v with
  | .ref k => .ref (b.1 + k)
  | .retAddr _ => .ref b.2
  | .int x => .int x
  | .long x => .long x
  | .float x => .float x
  | .double x => .double x
  | .null => .null
theorem ex_v_cat (b : ex_B) (v : Value) : (ex_v b v).category = v.category := by cases v <;> rfl
def ex_e (b : ex_B) (dA : FieldType → ClassId) (c : ex_C) : va_E := match c with
  | .inl (ty, n, f) => .inl (dA ty, n, .inl f)
  | .inr (.inl (C, n, f)) => .inl (dA (.object C), n, .inr (.inr (.inr (.inr (fun j => (f j).map (fun k => b.1 + k))))))
  | .inr (.inr (ci, fs)) => .inr (ci, fs.map (ex_v b))
def ex_g : List Cond := lw_tbl.filter goodWord
theorem ex_g_good : ∀ w ∈ ex_g, (w.onTables && w.keeps) = true ∨ ∃ ty, w = .arrayClass ty := fun w h => good_of_word (List.mem_filter.mp h).2
def ex_tys (dA : FieldType → ClassId) : List (ClassId × FieldType) := [(dA .int, .int), (dA .boolean, .boolean), (dA (.object RX1), .object RX1), (dA (.object RX4), .object RX4), (dA (.object RX6), .object RX6)]
def ex_K (D : va_G) (dA : FieldType → ClassId) (U : State) : Prop :=
  va_K D vwCl (ex_tys dA) U ∧ (∀ (a : String) (i : Nat) (x : MethodName) (h : String), Cond.methodLinkNest a i x h ∈ lw_tbl → va_Nw (.methodLinkNest a i x h) U) ∧ (∀ C : String, Cond.arrayOver (.object C) ∈ lw_tbl → va_AO C U)
theorem ex_K.warm {D : va_G} {dA : FieldType → ClassId} {s U : State} (hW : s.WarmedH U.vm) (h : ex_K D dA s) : ex_K D dA U :=
  ⟨va_K.moved hW.alike h.1, fun a i x y hm => va_Nw.warmM hW (h.2.1 a i x y hm), fun C hm => va_AO.moved hW.alike (h.2.2 C hm)⟩
theorem ex_K.same {D : va_G} {dA : FieldType → ClassId} {s U : State} (hv : s.vm = U.vm) (h : ex_K D dA s) : ex_K D dA U :=
  ⟨va_K.moved (by rw [hv]; exact Vm.Alike.refl _) h.1, fun a i x y hm => va_Nw.same rfl hv (h.2.1 a i x y hm), fun C hm => va_AO.moved (by rw [hv]; exact Vm.Alike.refl _) (h.2.2 C hm)⟩
def ex_P (D : va_G) (dA : FieldType → ClassId) (b : ex_B) (H : ex_H) (HH : Heap) : Prop := HH.size = b.1 + H.length ∧ ∀ (k : Nat) (c : ex_C), H[k]? = some c → va_at D vwCl (b.1 + k, ex_e b dA c) HH
theorem ex_P.set {D : va_G} {dA : FieldType → ClassId} {b : ex_B} {H : ex_H} {HH H1 : Heap} {k : Nat} {c0 c : ex_C} (h : ex_P D dA b H HH) (hk : H[k]? = some c0) (hz : H1.size = HH.size) (ho : ∀ q : Nat, q ≠ b.1 + k → H1[q]? = HH[q]?) (he : va_at D vwCl (b.1 + k, ex_e b dA c) H1) : ex_P D dA b (H.set k c) H1 := by
  have hl := (List.getElem?_eq_some_iff.mp hk).1
  refine ⟨by rw [hz, h.1, List.length_set], fun j x hj => ?_⟩
  by_cases hjk : j = k
  · subst hjk
    rw [List.getElem?_set_self hl] at hj
    cases hj
    exact he
  · rw [List.getElem?_set_ne (Ne.symm hjk)] at hj
    exact (h.2 j x hj).kept (ho _ (fun z => hjk (Nat.add_left_cancel z)))
theorem ex_P.push {D : va_G} {dA : FieldType → ClassId} {b : ex_B} {H : ex_H} {HH H1 : Heap} {c : ex_C} (h : ex_P D dA b H HH) (hz : H1.size = HH.size + 1) (ho : ∀ q : Nat, q < HH.size → H1[q]? = HH[q]?) (he : va_at D vwCl (b.1 + H.length, ex_e b dA c) H1) : ex_P D dA b (H ++ [c]) H1 := by
  refine ⟨by rw [hz, h.1, List.length_append, List.length_singleton, Nat.add_assoc], fun j x hj => ?_⟩
  by_cases hl : j < H.length
  · rw [List.getElem?_append_left hl] at hj
    exact (h.2 j x hj).kept (ho _ (by rw [h.1]; exact Nat.add_lt_add_left hl _))
  · rw [List.getElem?_append_right (by omega)] at hj
    have hz1 : j - H.length < 1 := (List.getElem?_eq_some_iff.mp hj).1
    have hj0 : j = H.length := by omega
    subst hj0
    rw [Nat.sub_self] at hj
    cases hj
    exact he
def ex_R (d mc ms : Nat) : Room := { frames := d, cells := mc, slots := ms, locals := 38 * d + 4 }
def ex_L (b : ex_B) (nL : Nat) (lsr : Array Slot) (ls : List (Nat × Value)) : Prop := lsr.size = nL ∧ lv_wf lsr ∧ ∀ (i : Nat) (v : Value), ls.lookup i = some v → lsr[i]? = some (.val (ex_v b v))
def ex_Q (D : va_G) (dA : FieldType → ClassId) (b : ex_B) (post : ex_H → Option Value → Prop) : Array Value → State → Outcome → State → Prop := fun _ st oc t =>
  (∃ (H' : ex_H) (r : Option Value), oc = .returned (r.map (ex_v b)) ∧ post H' r ∧ ex_P D dA b H' t.heap) ∧ va_F (fun q => b.1 ≤ q) st t
def ex_X (M : ex_M) (p : Program) (s : State) (m : MethodId) (args : Array Value) (meth : Method) (c : Code) (D : va_G) (dA : FieldType → ClassId) (b : ex_B) : Prop :=
  p.tables.exec = Jvm.exec ∧ c.code = M.2.1 ∧ meth.sig.returnType = M.2.2.2.1 ∧ meth.locks = false ∧ c.maxLocals = M.2.2.1 ∧ s.vm.findClass M.1.cls = some m.cls ∧ meth.name = M.1.name ∧ (∀ w ∈ ex_g, w.before args s = true) ∧ ex_K D dA s ∧
  ∀ (L : Nat) (xs : Nat → Int32), M.2.2.2.2 = some (L, xs) → va_X b.2 L xs s s.heap ∧ b.2 < s.heap.size ∧ b.2 < b.1
/-- the walk: method M stands at pc with the locals ls, the stack st, over the cells H -/
def ex_W (M : ex_M) (d mc ms : Nat) (post : ex_H → Option Value → Prop) (H : ex_H) (pc : Nat) (ls : List (Nat × Value)) (st : List Value) (cells slots : Nat) : Prop :=
  ∀ (p : Program) (l : Launch) (e : Env) (s : State) (m : MethodId) (args : Array Value) (below : List Frame) (meth : Method) (c : Code) (D : va_G) (dA : FieldType → ClassId) (b : ex_B), ex_X M p s m args meth c D dA b →
    ∀ (HH : Heap) (locs : List Loc) (lsr : Array Slot), ex_P D dA b H HH → va_S (fun q => b.1 ≤ q) s.heap HH locs → ex_L b M.2.2.1 lsr ls →
    W p l e (ex_R d mc ms) s m args below meth c HH locs cells slots (MQ below (ex_Q D dA b post) args s mc ms (fun q => b.1 ≤ q)) (F0 m pc lsr (st.map (ex_v b)))
/-- the contract: method N over the cells H with the arguments As returns, with 'post' of the cells and the answer -/
def ex_Met (N : ex_M) (d mc ms : Nat) (H : ex_H) (As : List Value) (post : ex_H → Option Value → Prop) : Prop :=
  ∀ (l : Launch) (D : va_G) (dA : FieldType → ClassId) (b : ex_B), Met l N.1 (.code N.1 N.2.1 N.2.2.1 N.2.2.2.1 :: ex_g) (ex_R d mc ms) (va_Pc (As.map (ex_v b)) (fun U => ex_P D dA b H U.heap ∧ ex_K D dA U)) (ex_Q D dA b post) mc ms (fun q => b.1 ≤ q)
theorem ex_lv_args (b : ex_B) : ∀ (As : List Value) (i : Nat), lv_args i (As.map (ex_v b)) = (lv_args i As).map (fun q => (q.1, ex_v b q.2))
  | [], _ => rfl
  | v :: As, i => by
    show (i, ex_v b v) :: lv_args (if (ex_v b v).category = 2 then i + 2 else i + 1) (As.map (ex_v b)) = (i, ex_v b v) :: (lv_args (if v.category = 2 then i + 2 else i + 1) As).map (fun q => (q.1, ex_v b q.2))
    rw [ex_v_cat, ex_lv_args b As]
theorem ex_lookup_mem : ∀ (ls : List (Nat × Value)) (i : Nat) (v : Value), ls.lookup i = some v → (i, v) ∈ ls
  | [], _, _, h => by cases h
  | (j, w) :: ls, i, v, h => by
    by_cases hij : i = j
    · subst hij
      rw [List.lookup_cons_self] at h
      cases h
      exact List.mem_cons_self
    · have hb : (i == j) = false := by simpa using hij
      simp only [List.lookup, hb] at h
      exact List.mem_cons_of_mem _ (ex_lookup_mem ls i v h)
theorem ex_meth {N : ex_M} {d mc ms : Nat} {H : ex_H} {As : List Value} {post : ex_H → Option Value → Prop} (ls : List (Nat × Value)) (hls : lv_args 0 As = ls) (hy : plainName N.1.cls = true) (hsp : N.2.2.2.2 = none)
    (hL : ∀ b : ex_B, (lg_sl (As.map (ex_v b))).length ≤ N.2.2.1) (k : ex_W N d mc ms post H 0 ls [] 0 0) : ex_Met N d mc ms H As post := by
  intro l D dA b
  refine Met.ofW (cc := N.2.1) (maxL := N.2.2.1) (ret := N.2.2.2.1) hy rfl ?_
  intro p e s m args below meth c s₁ B hml hv
  obtain ⟨rfl, hP, hK⟩ := hv
  have hts := atoms_spec (ws := .code N.1 N.2.1 N.2.2.1 N.2.2.2.1 :: ex_g) B.pre
  have hl := lv_entry (As.map (ex_v b)) (n := N.2.2.1) (hL b)
  rw [lg_entry_eq]
  refine k p l e s m _ below meth c D dA b ⟨B.exec, B.bytes, B.returns, B.notSynchronized, hml, findClass_of_methodNamed B.named, (name_of_methodNamed B.named B.method).1, fun w hw => hts w (List.mem_cons_of_mem _ hw), hK, fun L xs h => by rw [hsp] at h; cases h⟩ s.heap [] _ hP va_S.rf ?_
  refine ⟨hl.1, hl.2.1, fun i v hi => ?_⟩
  have hm := ex_lookup_mem _ _ _ hi
  rw [← hls] at hm
  exact hl.2.2 (i, ex_v b v) (by rw [ex_lv_args]; exact List.mem_map.mpr ⟨(i, v), hm, rfl⟩)
section EW
variable {M : ex_M} {d mc ms : Nat} {post : ex_H → Option Value → Prop} {H : ex_H} {pc : Nat} {ls : List (Nat × Value)} {st : List Value} {cells slots : Nat}
def ex_sub : List (Nat × Value) → List (Nat × Value) → Prop
  | [], _ => True
  | q :: r, ls => ls.lookup q.1 = some q.2 ∧ ex_sub r ls
theorem ex_sub_lookup : ∀ (l' ls : List (Nat × Value)), ex_sub l' ls → ∀ i v, l'.lookup i = some v → ls.lookup i = some v
  | [], _, _, _, _, h => by cases h
  | (j, w) :: l', ls, hs, i, v, h => by
    by_cases hij : i = j
    · subst hij
      rw [List.lookup_cons_self] at h
      cases h
      exact hs.1
    · have hb : (i == j) = false := by simpa using hij
      simp only [List.lookup, hb] at h
      exact ex_sub_lookup l' ls hs.2 i v h
/-- fewer locals are known -/
theorem ew_ls (ls' : List (Nat × Value)) (hs : ex_sub ls' ls) (k : ex_W M d mc ms post H pc ls' st cells slots) : ex_W M d mc ms post H pc ls st cells slots := by
  intro p l e s m args below meth c D dA b X HH locs lsr hP hS hL
  exact k p l e s m args below meth c D dA b X HH locs lsr hP hS ⟨hL.1, hL.2.1, fun i v h => hL.2.2 i v (ex_sub_lookup _ _ hs i v h)⟩
theorem ew_post {post' : ex_H → Option Value → Prop} (hq : ∀ H' r, post' H' r → post H' r) (k : ex_W M d mc ms post' H pc ls st cells slots) : ex_W M d mc ms post H pc ls st cells slots := by
  intro p l e s m args below meth c D dA b X HH locs lsr hP hS hL T hT XT
  obtain ⟨t, h1, o, h2, h3, ⟨⟨H', r, e1, e2, e3⟩, e4⟩, h5⟩ := k p l e s m args below meth c D dA b X HH locs lsr hP hS hL T hT XT
  exact ⟨t, h1, o, h2, h3, ⟨⟨H', r, e1, hq H' r e2, e3⟩, e4⟩, h5⟩

theorem ew_iconst {n : Int} (hd : decode M.2.1 pc = .ok (.iconst n, 1)) {v : Int32} (hv : Int32.ofInt n = v) (k : ex_W M d mc ms post H (pc + 1) ls (.int v :: st) cells slots) : ex_W M d mc ms post H pc ls (st) cells slots := by
  intro p l e s m args below meth c D dA b X HH locs lsr hP hS hL
  exact lv_iconst X.1 X.2.1 hd hv (k p l e s m args below meth c D dA b X HH locs lsr hP hS hL)
theorem ew_bipush {n : Int} (hd : decode M.2.1 pc = .ok (.bipush n, 2)) {v : Int32} (hv : (Int8.ofInt n).toInt32 = v) (k : ex_W M d mc ms post H (pc + 2) ls (.int v :: st) cells slots) : ex_W M d mc ms post H pc ls (st) cells slots := by
  intro p l e s m args below meth c D dA b X HH locs lsr hP hS hL
  exact lv_bipush X.1 X.2.1 hd hv (k p l e s m args below meth c D dA b X HH locs lsr hP hS hL)
theorem ew_sipush {n : Int} (hd : decode M.2.1 pc = .ok (.sipush n, 3)) {v : Int32} (hv : (Int16.ofInt n).toInt32 = v) (k : ex_W M d mc ms post H (pc + 3) ls (.int v :: st) cells slots) : ex_W M d mc ms post H pc ls (st) cells slots := by
  intro p l e s m args below meth c D dA b X HH locs lsr hP hS hL
  exact lv_sipush X.1 X.2.1 hd hv (k p l e s m args below meth c D dA b X HH locs lsr hP hS hL)
theorem ew_lconst {n : Fin 2} (hd : decode M.2.1 pc = .ok (.lconst n, 1)) {v : Int64} (hv : Int64.ofNat (n : Nat) = v) (k : ex_W M d mc ms post H (pc + 1) ls (.long v :: st) cells slots) : ex_W M d mc ms post H pc ls (st) cells slots := by
  intro p l e s m args below meth c D dA b X HH locs lsr hP hS hL
  exact lv_lconst X.1 X.2.1 hd hv (k p l e s m args below meth c D dA b X HH locs lsr hP hS hL)
theorem ew_ldc {i : Nat} {v : Int32} (hd : decode M.2.1 pc = .ok (.ldc i, 2)) (hw : Cond.constant M.1.cls i v ∈ ex_g) (k : ex_W M d mc ms post H (pc + 2) ls (.int v :: st) cells slots) : ex_W M d mc ms post H pc ls (st) cells slots := by
  intro p l e s m args below meth c D dA b X HH locs lsr hP hS hL
  exact lv_ldc X.1 X.2.1 X.2.2.2.2.2.1 (X.2.2.2.2.2.2.2.1 _ hw) hd (k p l e s m args below meth c D dA b X HH locs lsr hP hS hL)
theorem ew_ldc2 {i : Nat} {v : Int64} (hd : decode M.2.1 pc = .ok (.ldc2_w i, 3)) (hw : Cond.constantLong M.1.cls i v ∈ ex_g) (k : ex_W M d mc ms post H (pc + 3) ls (.long v :: st) cells slots) : ex_W M d mc ms post H pc ls (st) cells slots := by
  intro p l e s m args below meth c D dA b X HH locs lsr hP hS hL
  exact lv_ldc2 X.1 X.2.1 X.2.2.2.2.2.1 (X.2.2.2.2.2.2.2.1 _ hw) hd (k p l e s m args below meth c D dA b X HH locs lsr hP hS hL)
theorem ew_iload_n {j : Fin 4} {x : Int32} (hd : decode M.2.1 pc = .ok (.iload_n j, 1)) (hl : ls.lookup (j : Nat) = some (.int x)) (k : ex_W M d mc ms post H (pc + 1) ls (.int x :: st) cells slots) : ex_W M d mc ms post H pc ls (st) cells slots := by
  intro p l e s m args below meth c D dA b X HH locs lsr hP hS hL
  exact lv_iload_n X.1 X.2.1 hd rfl (hL.2.2 _ _ hl) (k p l e s m args below meth c D dA b X HH locs lsr hP hS hL)
theorem ew_iload {i : Nat} {x : Int32} (hd : decode M.2.1 pc = .ok (.iload i, 2)) (hl : ls.lookup i = some (.int x)) (k : ex_W M d mc ms post H (pc + 2) ls (.int x :: st) cells slots) : ex_W M d mc ms post H pc ls (st) cells slots := by
  intro p l e s m args below meth c D dA b X HH locs lsr hP hS hL
  exact lv_iload X.1 X.2.1 hd (hL.2.2 _ _ hl) (k p l e s m args below meth c D dA b X HH locs lsr hP hS hL)
theorem ew_lload_n {j : Fin 4} {x : Int64} (hd : decode M.2.1 pc = .ok (.lload_n j, 1)) (hl : ls.lookup (j : Nat) = some (.long x)) (k : ex_W M d mc ms post H (pc + 1) ls (.long x :: st) cells slots) : ex_W M d mc ms post H pc ls (st) cells slots := by
  intro p l e s m args below meth c D dA b X HH locs lsr hP hS hL
  exact lv_lload_n X.1 X.2.1 hd rfl (hL.2.2 _ _ hl) (k p l e s m args below meth c D dA b X HH locs lsr hP hS hL)
theorem ew_lload {i : Nat} {x : Int64} (hd : decode M.2.1 pc = .ok (.lload i, 2)) (hl : ls.lookup i = some (.long x)) (k : ex_W M d mc ms post H (pc + 2) ls (.long x :: st) cells slots) : ex_W M d mc ms post H pc ls (st) cells slots := by
  intro p l e s m args below meth c D dA b X HH locs lsr hP hS hL
  exact lv_lload X.1 X.2.1 hd (hL.2.2 _ _ hl) (k p l e s m args below meth c D dA b X HH locs lsr hP hS hL)
theorem ew_aload_n {j : Fin 4} {v : Value} (hd : decode M.2.1 pc = .ok (.aload_n j, 1)) (hl : ls.lookup (j : Nat) = some v) (hv : v = .null ∨ (∃ a, v = .ref a) ∨ ∃ a, v = .retAddr a) (k : ex_W M d mc ms post H (pc + 1) ls (v :: st) cells slots) : ex_W M d mc ms post H pc ls st cells slots := by
  intro p l e s m args below meth c D dA b X HH locs lsr hP hS hL
  have hq := hL.2.2 _ _ hl
  have hk := k p l e s m args below meth c D dA b X HH locs lsr hP hS hL
  rcases hv with rfl | ⟨a, rfl⟩ | ⟨a, rfl⟩
  · exact lv_aload_nN X.1 X.2.1 hd rfl hq hk
  · exact lv_aload_n X.1 X.2.1 hd rfl hq hk
  · exact lv_aload_n X.1 X.2.1 hd rfl hq hk
theorem ew_aload {i : Nat} {v : Value} (hd : decode M.2.1 pc = .ok (.aload i, 2)) (hl : ls.lookup i = some v) (hv : v = .null ∨ (∃ a, v = .ref a) ∨ ∃ a, v = .retAddr a) (k : ex_W M d mc ms post H (pc + 2) ls (v :: st) cells slots) : ex_W M d mc ms post H pc ls st cells slots := by
  intro p l e s m args below meth c D dA b X HH locs lsr hP hS hL
  have hq := hL.2.2 _ _ hl
  have hk := k p l e s m args below meth c D dA b X HH locs lsr hP hS hL
  rcases hv with rfl | ⟨a, rfl⟩ | ⟨a, rfl⟩
  · exact lv_aloadN X.1 X.2.1 hd  hq hk
  · exact lv_aload X.1 X.2.1 hd  hq hk
  · exact lv_aload X.1 X.2.1 hd  hq hk
theorem ex_L.store {b : ex_B} {nL : Nat} {lsr ls' : Array Slot} {ls : List (Nat × Value)} {i : Nat} {v : Value} (hL : ex_L b nL lsr ls) (hc : ls.all (fun q => q.2.category == 1) = true)
    (h : lv_has ls' nL ((i, ex_v b v) :: (ls.filterMap (fun q => (ls.lookup q.1).map (fun w => (q.1, ex_v b w)))).filter (fun q => !(q.1 == i) && !(q.1 + 1 == i && q.2.category == 2)))) : ex_L b nL ls' ((i, v) :: ls) := by
  refine ⟨h.1, h.2.1, fun j w hj => ?_⟩
  by_cases hij : j = i
  · subst hij
    rw [List.lookup_cons_self] at hj
    cases hj
    exact h.2.2 (j, ex_v b v) List.mem_cons_self
  · have hb : (j == i) = false := by simpa using hij
    simp only [List.lookup, hb] at hj
    have hm := ex_lookup_mem _ _ _ hj
    have hcat : w.category = 1 := by
      have := List.all_eq_true.mp hc _ hm
      simpa using this
    refine h.2.2 (j, ex_v b w) (List.mem_cons_of_mem _ (List.mem_filter.mpr ⟨List.mem_filterMap.mpr ⟨(j, w), hm, by simp [hj]⟩, ?_⟩))
    simp [hij, ex_v_cat, hcat]
theorem ex_L.has {b : ex_B} {nL : Nat} {lsr : Array Slot} {ls : List (Nat × Value)} (hL : ex_L b nL lsr ls) : lv_has lsr nL (ls.filterMap (fun q => (ls.lookup q.1).map (fun w => (q.1, ex_v b w)))) := by
  refine ⟨hL.1, hL.2.1, fun q hq => ?_⟩
  obtain ⟨x, -, hx⟩ := List.mem_filterMap.mp hq
  obtain ⟨w, hw, rfl⟩ := Option.map_eq_some_iff.mp hx
  exact hL.2.2 _ _ hw
theorem ew_istore_n {j : Fin 4} {x : Int32} (hd : decode M.2.1 pc = .ok (.istore_n j, 1)) (hn : (j : Nat) < M.2.2.1) (hc : ls.all (fun q => q.2.category == 1) = true) (k : ex_W M d mc ms post H (pc + 1) (((j : Nat), .int x) :: ls) st cells slots) : ex_W M d mc ms post H pc ls (.int x :: st) cells slots := by
  intro p l e s m args below meth c D dA b X HH locs lsr hP hS hL
  exact lv_istore_n X.1 X.2.1 hd rfl hL.has hn rfl (fun ls' h => k p l e s m args below meth c D dA b X HH locs ls' hP hS (hL.store (v := .int x) hc h))
theorem ew_istore {i : Nat} {x : Int32} (hd : decode M.2.1 pc = .ok (.istore i, 2)) (hn : i < M.2.2.1) (hc : ls.all (fun q => q.2.category == 1) = true) (k : ex_W M d mc ms post H (pc + 2) ((i, .int x) :: ls) st cells slots) : ex_W M d mc ms post H pc ls (.int x :: st) cells slots := by
  intro p l e s m args below meth c D dA b X HH locs lsr hP hS hL
  exact lv_istore X.1 X.2.1 hd  hL.has hn rfl (fun ls' h => k p l e s m args below meth c D dA b X HH locs ls' hP hS (hL.store (v := .int x) hc h))
theorem ew_astore_n {j : Fin 4} {v : Value} (hd : decode M.2.1 pc = .ok (.astore_n j, 1)) (hv : v = .null ∨ ∃ a, v = .ref a) (hn : (j : Nat) < M.2.2.1) (hc : ls.all (fun q => q.2.category == 1) = true) (k : ex_W M d mc ms post H (pc + 1) (((j : Nat), v) :: ls) st cells slots) : ex_W M d mc ms post H pc ls (v :: st) cells slots := by
  intro p l e s m args below meth c D dA b X HH locs lsr hP hS hL
  rcases hv with rfl | ⟨a, rfl⟩
  · exact lv_astore_nN X.1 X.2.1 hd rfl hL.has hn rfl (fun ls' h => k p l e s m args below meth c D dA b X HH locs ls' hP hS (hL.store (v := .null) hc h))
  · exact lv_astore_n X.1 X.2.1 hd rfl hL.has hn rfl (fun ls' h => k p l e s m args below meth c D dA b X HH locs ls' hP hS (hL.store (v := .ref a) hc h))
theorem ew_astore {i : Nat} {v : Value} (hd : decode M.2.1 pc = .ok (.astore i, 2)) (hv : v = .null ∨ ∃ a, v = .ref a) (hn : i < M.2.2.1) (hc : ls.all (fun q => q.2.category == 1) = true) (k : ex_W M d mc ms post H (pc + 2) ((i, v) :: ls) st cells slots) : ex_W M d mc ms post H pc ls (v :: st) cells slots := by
  intro p l e s m args below meth c D dA b X HH locs lsr hP hS hL
  rcases hv with rfl | ⟨a, rfl⟩
  · exact lv_astoreN X.1 X.2.1 hd  hL.has hn rfl (fun ls' h => k p l e s m args below meth c D dA b X HH locs ls' hP hS (hL.store (v := .null) hc h))
  · exact lv_astore X.1 X.2.1 hd  hL.has hn rfl (fun ls' h => k p l e s m args below meth c D dA b X HH locs ls' hP hS (hL.store (v := .ref a) hc h))
theorem ew_iinc {i : Nat} {n : Int} {x v : Int32} (hd : decode M.2.1 pc = .ok (.iinc i n, 3)) (hl : ls.lookup i = some (.int x)) (hv : x + Int32.ofInt n = v) (hn : i < M.2.2.1) (hc : ls.all (fun q => q.2.category == 1) = true) (k : ex_W M d mc ms post H (pc + 3) ((i, .int v) :: ls) st cells slots) : ex_W M d mc ms post H pc ls st cells slots := by
  intro p l e s m args below meth c D dA b X HH locs lsr hP hS hL
  have hm := ex_lookup_mem _ _ _ hl
  have hm2 : (i, Value.int x) ∈ ls.filterMap (fun q => (ls.lookup q.1).map (fun w => (q.1, ex_v b w))) := List.mem_filterMap.mpr ⟨(i, .int x), hm, by simp [hl, ex_v]⟩
  obtain ⟨kk, hkk⟩ := List.getElem?_of_mem hm2
  exact lv_iinc X.1 X.2.1 hd hL.has hkk hv hn rfl (fun ls' h => k p l e s m args below meth c D dA b X HH locs ls' hP hS (hL.store (v := .int v) hc h))
theorem ew_iadd {x y : Int32} (hd : decode M.2.1 pc = .ok (.iadd, 1)) (k : ex_W M d mc ms post H (pc + 1) ls (.int (x + y) :: st) cells slots) : ex_W M d mc ms post H pc ls (.int y :: .int x :: st) cells slots := by
  intro p l e s m args below meth c D dA b X HH locs lsr hP hS hL
  exact lv_iadd X.1 X.2.1 hd (k p l e s m args below meth c D dA b X HH locs lsr hP hS hL)
theorem ew_isub {x y : Int32} (hd : decode M.2.1 pc = .ok (.isub, 1)) (k : ex_W M d mc ms post H (pc + 1) ls (.int (x - y) :: st) cells slots) : ex_W M d mc ms post H pc ls (.int y :: .int x :: st) cells slots := by
  intro p l e s m args below meth c D dA b X HH locs lsr hP hS hL
  exact lv_isub X.1 X.2.1 hd (k p l e s m args below meth c D dA b X HH locs lsr hP hS hL)
theorem ew_imul {x y : Int32} (hd : decode M.2.1 pc = .ok (.imul, 1)) (k : ex_W M d mc ms post H (pc + 1) ls (.int (x * y) :: st) cells slots) : ex_W M d mc ms post H pc ls (.int y :: .int x :: st) cells slots := by
  intro p l e s m args below meth c D dA b X HH locs lsr hP hS hL
  exact lv_imul X.1 X.2.1 hd (k p l e s m args below meth c D dA b X HH locs lsr hP hS hL)
theorem ew_iand {x y : Int32} (hd : decode M.2.1 pc = .ok (.iand, 1)) (k : ex_W M d mc ms post H (pc + 1) ls (.int (x &&& y) :: st) cells slots) : ex_W M d mc ms post H pc ls (.int y :: .int x :: st) cells slots := by
  intro p l e s m args below meth c D dA b X HH locs lsr hP hS hL
  exact lv_iand X.1 X.2.1 hd (k p l e s m args below meth c D dA b X HH locs lsr hP hS hL)
theorem ew_ior {x y : Int32} (hd : decode M.2.1 pc = .ok (.ior, 1)) (k : ex_W M d mc ms post H (pc + 1) ls (.int (x ||| y) :: st) cells slots) : ex_W M d mc ms post H pc ls (.int y :: .int x :: st) cells slots := by
  intro p l e s m args below meth c D dA b X HH locs lsr hP hS hL
  exact lv_ior X.1 X.2.1 hd (k p l e s m args below meth c D dA b X HH locs lsr hP hS hL)
theorem ew_ixor {x y : Int32} (hd : decode M.2.1 pc = .ok (.ixor, 1)) (k : ex_W M d mc ms post H (pc + 1) ls (.int (x ^^^ y) :: st) cells slots) : ex_W M d mc ms post H pc ls (.int y :: .int x :: st) cells slots := by
  intro p l e s m args below meth c D dA b X HH locs lsr hP hS hL
  exact lv_ixor X.1 X.2.1 hd (k p l e s m args below meth c D dA b X HH locs lsr hP hS hL)
theorem ew_ishl {x y : Int32} (hd : decode M.2.1 pc = .ok (.ishl, 1)) (k : ex_W M d mc ms post H (pc + 1) ls (.int (x <<< (y &&& 31)) :: st) cells slots) : ex_W M d mc ms post H pc ls (.int y :: .int x :: st) cells slots := by
  intro p l e s m args below meth c D dA b X HH locs lsr hP hS hL
  exact lv_ishl X.1 X.2.1 hd (k p l e s m args below meth c D dA b X HH locs lsr hP hS hL)
theorem ew_ishr {x y : Int32} (hd : decode M.2.1 pc = .ok (.ishr, 1)) (k : ex_W M d mc ms post H (pc + 1) ls (.int (x >>> (y &&& 31)) :: st) cells slots) : ex_W M d mc ms post H pc ls (.int y :: .int x :: st) cells slots := by
  intro p l e s m args below meth c D dA b X HH locs lsr hP hS hL
  exact lv_ishr X.1 X.2.1 hd (k p l e s m args below meth c D dA b X HH locs lsr hP hS hL)
theorem ew_idiv {x y : Int32} (hd : decode M.2.1 pc = .ok (.idiv, 1)) (hne : ¬ y = 0) (k : ex_W M d mc ms post H (pc + 1) ls (.int (x / y) :: st) cells slots) : ex_W M d mc ms post H pc ls (.int y :: .int x :: st) cells slots := by
  intro p l e s m args below meth c D dA b X HH locs lsr hP hS hL
  exact lv_idiv X.1 X.2.1 hd hne (k p l e s m args below meth c D dA b X HH locs lsr hP hS hL)
theorem ew_irem {x y : Int32} (hd : decode M.2.1 pc = .ok (.irem, 1)) (hne : ¬ y = 0) (k : ex_W M d mc ms post H (pc + 1) ls (.int (x - x / y * y) :: st) cells slots) : ex_W M d mc ms post H pc ls (.int y :: .int x :: st) cells slots := by
  intro p l e s m args below meth c D dA b X HH locs lsr hP hS hL
  exact lv_irem X.1 X.2.1 hd hne (k p l e s m args below meth c D dA b X HH locs lsr hP hS hL)
theorem ew_ineg {x : Int32} (hd : decode M.2.1 pc = .ok (.ineg, 1)) (k : ex_W M d mc ms post H (pc + 1) ls (.int (-x) :: st) cells slots) : ex_W M d mc ms post H pc ls (.int x :: st) cells slots := by
  intro p l e s m args below meth c D dA b X HH locs lsr hP hS hL
  exact lv_ineg X.1 X.2.1 hd (k p l e s m args below meth c D dA b X HH locs lsr hP hS hL)
theorem ew_ladd {x y : Int64} (hd : decode M.2.1 pc = .ok (.ladd, 1)) (k : ex_W M d mc ms post H (pc + 1) ls (.long (x + y) :: st) cells slots) : ex_W M d mc ms post H pc ls (.long y :: .long x :: st) cells slots := by
  intro p l e s m args below meth c D dA b X HH locs lsr hP hS hL
  exact lv_ladd X.1 X.2.1 hd (k p l e s m args below meth c D dA b X HH locs lsr hP hS hL)
theorem ew_lmul {x y : Int64} (hd : decode M.2.1 pc = .ok (.lmul, 1)) (k : ex_W M d mc ms post H (pc + 1) ls (.long (x * y) :: st) cells slots) : ex_W M d mc ms post H pc ls (.long y :: .long x :: st) cells slots := by
  intro p l e s m args below meth c D dA b X HH locs lsr hP hS hL
  exact lv_lmul X.1 X.2.1 hd (k p l e s m args below meth c D dA b X HH locs lsr hP hS hL)
theorem ew_lrem {x y : Int64} (hd : decode M.2.1 pc = .ok (.lrem, 1)) (hne : ¬ y = 0) (k : ex_W M d mc ms post H (pc + 1) ls (.long (x - x / y * y) :: st) cells slots) : ex_W M d mc ms post H pc ls (.long y :: .long x :: st) cells slots := by
  intro p l e s m args below meth c D dA b X HH locs lsr hP hS hL
  exact lv_lrem X.1 X.2.1 hd hne (k p l e s m args below meth c D dA b X HH locs lsr hP hS hL)
theorem ew_lcmp {x y : Int64} (hd : decode M.2.1 pc = .ok (.lcmp, 1)) (k : ex_W M d mc ms post H (pc + 1) ls (.int (lg_cmp x y) :: st) cells slots) : ex_W M d mc ms post H pc ls (.long y :: .long x :: st) cells slots := by
  intro p l e s m args below meth c D dA b X HH locs lsr hP hS hL
  exact W.lcmp X.1 X.2.1 hd (k p l e s m args below meth c D dA b X HH locs lsr hP hS hL)
theorem ew_i2l {x : Int32} (hd : decode M.2.1 pc = .ok (.i2l, 1)) (k : ex_W M d mc ms post H (pc + 1) ls (.long x.toInt64 :: st) cells slots) : ex_W M d mc ms post H pc ls (.int x :: st) cells slots := by
  intro p l e s m args below meth c D dA b X HH locs lsr hP hS hL
  exact lv_i2l X.1 X.2.1 hd rfl (k p l e s m args below meth c D dA b X HH locs lsr hP hS hL)
theorem ew_l2i {x : Int64} (hd : decode M.2.1 pc = .ok (.l2i, 1)) (k : ex_W M d mc ms post H (pc + 1) ls (.int x.toInt32 :: st) cells slots) : ex_W M d mc ms post H pc ls (.long x :: st) cells slots := by
  intro p l e s m args below meth c D dA b X HH locs lsr hP hS hL
  exact lv_l2i X.1 X.2.1 hd rfl (k p l e s m args below meth c D dA b X HH locs lsr hP hS hL)
theorem ew_dup {v : Value} (hd : decode M.2.1 pc = .ok (.dup, 1)) (hc : v.category = 1) (k : ex_W M d mc ms post H (pc + 1) ls (v :: v :: st) cells slots) : ex_W M d mc ms post H pc ls (v :: st) cells slots := by
  intro p l e s m args below meth c D dA b X HH locs lsr hP hS hL
  exact lv_dup X.1 X.2.1 hd (by rw [ex_v_cat]; exact hc) (k p l e s m args below meth c D dA b X HH locs lsr hP hS hL)
theorem ew_pop {v : Value} (hd : decode M.2.1 pc = .ok (.pop, 1)) (hc : v.category = 1) (k : ex_W M d mc ms post H (pc + 1) ls (st) cells slots) : ex_W M d mc ms post H pc ls (v :: st) cells slots := by
  intro p l e s m args below meth c D dA b X HH locs lsr hP hS hL
  exact lv_pop X.1 X.2.1 hd (by rw [ex_v_cat]; exact hc) (k p l e s m args below meth c D dA b X HH locs lsr hP hS hL)
theorem ew_dup2 {v w : Value} (hd : decode M.2.1 pc = .ok (.dup2, 1)) (hc : v.category = 1) (hc2 : w.category = 1) (k : ex_W M d mc ms post H (pc + 1) ls (v :: w :: v :: w :: st) cells slots) : ex_W M d mc ms post H pc ls (v :: w :: st) cells slots := by
  intro p l e s m args below meth c D dA b X HH locs lsr hP hS hL
  exact lv_dup2_11 X.1 X.2.1 hd (by rw [ex_v_cat]; exact hc) (by rw [ex_v_cat]; exact hc2) (k p l e s m args below meth c D dA b X HH locs lsr hP hS hL)
theorem ew_aconst_null (hd : decode M.2.1 pc = .ok (.aconst_null, 1)) (k : ex_W M d mc ms post H (pc + 1) ls (.null :: st) cells slots) : ex_W M d mc ms post H pc ls (st) cells slots := by
  intro p l e s m args below meth c D dA b X HH locs lsr hP hS hL
  exact lv_null X.1 X.2.1 hd (k p l e s m args below meth c D dA b X HH locs lsr hP hS hL)
theorem ew_goto {off : Int} {tgt : Nat} (hd : decode M.2.1 pc = .ok (.goto off, 3)) (ht : (pc : Int) + off = (tgt : Int)) (k : ex_W M d mc ms post H (tgt) ls (st) cells slots) : ex_W M d mc ms post H pc ls (st) cells slots := by
  intro p l e s m args below meth c D dA b X HH locs lsr hP hS hL
  exact lv_goto X.1 X.2.1 hd ht (k p l e s m args below meth c D dA b X HH locs lsr hP hS hL)
theorem ew_icmp_eq {x y : Int32} {off : Int} {tgt : Nat} (hd : decode M.2.1 pc = .ok (.if_icmp .eq off, 3)) (ht : (pc : Int) + off = (tgt : Int)) (kt : x = y → ex_W M d mc ms post H tgt ls st cells slots) (kf : ¬ x = y → ex_W M d mc ms post H (pc + 3) ls st cells slots) : ex_W M d mc ms post H pc ls (.int y :: .int x :: st) cells slots := by
  intro p l e s m args below meth c D dA b X HH locs lsr hP hS hL
  exact lv_icmp_eq X.1 X.2.1 hd ht (fun h => kt h p l e s m args below meth c D dA b X HH locs lsr hP hS hL) (fun h => kf h p l e s m args below meth c D dA b X HH locs lsr hP hS hL)
theorem ew_if_eq {x : Int32} {off : Int} {tgt : Nat} (hd : decode M.2.1 pc = .ok (.ifCond .eq off, 3)) (ht : (pc : Int) + off = (tgt : Int)) (kt : x = 0 → ex_W M d mc ms post H tgt ls st cells slots) (kf : ¬ x = 0 → ex_W M d mc ms post H (pc + 3) ls st cells slots) : ex_W M d mc ms post H pc ls (.int x :: st) cells slots := by
  intro p l e s m args below meth c D dA b X HH locs lsr hP hS hL
  exact lv_if_eq X.1 X.2.1 hd ht (fun h => kt h p l e s m args below meth c D dA b X HH locs lsr hP hS hL) (fun h => kf h p l e s m args below meth c D dA b X HH locs lsr hP hS hL)
theorem ew_icmp_lt {x y : Int32} {off : Int} {tgt : Nat} (hd : decode M.2.1 pc = .ok (.if_icmp .lt off, 3)) (ht : (pc : Int) + off = (tgt : Int)) (kt : x < y → ex_W M d mc ms post H tgt ls st cells slots) (kf : ¬ x < y → ex_W M d mc ms post H (pc + 3) ls st cells slots) : ex_W M d mc ms post H pc ls (.int y :: .int x :: st) cells slots := by
  intro p l e s m args below meth c D dA b X HH locs lsr hP hS hL
  exact lv_icmp_lt X.1 X.2.1 hd ht (fun h => kt h p l e s m args below meth c D dA b X HH locs lsr hP hS hL) (fun h => kf h p l e s m args below meth c D dA b X HH locs lsr hP hS hL)
theorem ew_if_lt {x : Int32} {off : Int} {tgt : Nat} (hd : decode M.2.1 pc = .ok (.ifCond .lt off, 3)) (ht : (pc : Int) + off = (tgt : Int)) (kt : x < 0 → ex_W M d mc ms post H tgt ls st cells slots) (kf : ¬ x < 0 → ex_W M d mc ms post H (pc + 3) ls st cells slots) : ex_W M d mc ms post H pc ls (.int x :: st) cells slots := by
  intro p l e s m args below meth c D dA b X HH locs lsr hP hS hL
  exact lv_if_lt X.1 X.2.1 hd ht (fun h => kt h p l e s m args below meth c D dA b X HH locs lsr hP hS hL) (fun h => kf h p l e s m args below meth c D dA b X HH locs lsr hP hS hL)
theorem ew_icmp_gt {x y : Int32} {off : Int} {tgt : Nat} (hd : decode M.2.1 pc = .ok (.if_icmp .gt off, 3)) (ht : (pc : Int) + off = (tgt : Int)) (kt : y < x → ex_W M d mc ms post H tgt ls st cells slots) (kf : ¬ y < x → ex_W M d mc ms post H (pc + 3) ls st cells slots) : ex_W M d mc ms post H pc ls (.int y :: .int x :: st) cells slots := by
  intro p l e s m args below meth c D dA b X HH locs lsr hP hS hL
  exact lv_icmp_gt X.1 X.2.1 hd ht (fun h => kt h p l e s m args below meth c D dA b X HH locs lsr hP hS hL) (fun h => kf h p l e s m args below meth c D dA b X HH locs lsr hP hS hL)
theorem ew_if_gt {x : Int32} {off : Int} {tgt : Nat} (hd : decode M.2.1 pc = .ok (.ifCond .gt off, 3)) (ht : (pc : Int) + off = (tgt : Int)) (kt : 0 < x → ex_W M d mc ms post H tgt ls st cells slots) (kf : ¬ 0 < x → ex_W M d mc ms post H (pc + 3) ls st cells slots) : ex_W M d mc ms post H pc ls (.int x :: st) cells slots := by
  intro p l e s m args below meth c D dA b X HH locs lsr hP hS hL
  exact lv_if_gt X.1 X.2.1 hd ht (fun h => kt h p l e s m args below meth c D dA b X HH locs lsr hP hS hL) (fun h => kf h p l e s m args below meth c D dA b X HH locs lsr hP hS hL)
theorem ew_icmp_le {x y : Int32} {off : Int} {tgt : Nat} (hd : decode M.2.1 pc = .ok (.if_icmp .le off, 3)) (ht : (pc : Int) + off = (tgt : Int)) (kt : x ≤ y → ex_W M d mc ms post H tgt ls st cells slots) (kf : ¬ x ≤ y → ex_W M d mc ms post H (pc + 3) ls st cells slots) : ex_W M d mc ms post H pc ls (.int y :: .int x :: st) cells slots := by
  intro p l e s m args below meth c D dA b X HH locs lsr hP hS hL
  exact lv_icmp_le X.1 X.2.1 hd ht (fun h => kt h p l e s m args below meth c D dA b X HH locs lsr hP hS hL) (fun h => kf h p l e s m args below meth c D dA b X HH locs lsr hP hS hL)
theorem ew_if_le {x : Int32} {off : Int} {tgt : Nat} (hd : decode M.2.1 pc = .ok (.ifCond .le off, 3)) (ht : (pc : Int) + off = (tgt : Int)) (kt : x ≤ 0 → ex_W M d mc ms post H tgt ls st cells slots) (kf : ¬ x ≤ 0 → ex_W M d mc ms post H (pc + 3) ls st cells slots) : ex_W M d mc ms post H pc ls (.int x :: st) cells slots := by
  intro p l e s m args below meth c D dA b X HH locs lsr hP hS hL
  exact lv_if_le X.1 X.2.1 hd ht (fun h => kt h p l e s m args below meth c D dA b X HH locs lsr hP hS hL) (fun h => kf h p l e s m args below meth c D dA b X HH locs lsr hP hS hL)
theorem ew_icmp_ge {x y : Int32} {off : Int} {tgt : Nat} (hd : decode M.2.1 pc = .ok (.if_icmp .ge off, 3)) (ht : (pc : Int) + off = (tgt : Int)) (kt : y ≤ x → ex_W M d mc ms post H tgt ls st cells slots) (kf : ¬ y ≤ x → ex_W M d mc ms post H (pc + 3) ls st cells slots) : ex_W M d mc ms post H pc ls (.int y :: .int x :: st) cells slots := by
  intro p l e s m args below meth c D dA b X HH locs lsr hP hS hL
  exact lv_icmp_ge X.1 X.2.1 hd ht (fun h => kt h p l e s m args below meth c D dA b X HH locs lsr hP hS hL) (fun h => kf h p l e s m args below meth c D dA b X HH locs lsr hP hS hL)
theorem ew_if_ge {x : Int32} {off : Int} {tgt : Nat} (hd : decode M.2.1 pc = .ok (.ifCond .ge off, 3)) (ht : (pc : Int) + off = (tgt : Int)) (kt : 0 ≤ x → ex_W M d mc ms post H tgt ls st cells slots) (kf : ¬ 0 ≤ x → ex_W M d mc ms post H (pc + 3) ls st cells slots) : ex_W M d mc ms post H pc ls (.int x :: st) cells slots := by
  intro p l e s m args below meth c D dA b X HH locs lsr hP hS hL
  exact lv_if_ge X.1 X.2.1 hd ht (fun h => kt h p l e s m args below meth c D dA b X HH locs lsr hP hS hL) (fun h => kf h p l e s m args below meth c D dA b X HH locs lsr hP hS hL)
theorem ew_icmp_ne {x y : Int32} {off : Int} {tgt : Nat} (hd : decode M.2.1 pc = .ok (.if_icmp .ne off, 3)) (ht : (pc : Int) + off = (tgt : Int)) (kt : ¬ x = y → ex_W M d mc ms post H tgt ls st cells slots) (kf : x = y → ex_W M d mc ms post H (pc + 3) ls st cells slots) : ex_W M d mc ms post H pc ls (.int y :: .int x :: st) cells slots := by
  intro p l e s m args below meth c D dA b X HH locs lsr hP hS hL
  exact lv_icmp_ne X.1 X.2.1 hd ht (fun h => kt h p l e s m args below meth c D dA b X HH locs lsr hP hS hL) (fun h => kf h p l e s m args below meth c D dA b X HH locs lsr hP hS hL)
theorem ew_if_ne {x : Int32} {off : Int} {tgt : Nat} (hd : decode M.2.1 pc = .ok (.ifCond .ne off, 3)) (ht : (pc : Int) + off = (tgt : Int)) (kt : ¬ x = 0 → ex_W M d mc ms post H tgt ls st cells slots) (kf : x = 0 → ex_W M d mc ms post H (pc + 3) ls st cells slots) : ex_W M d mc ms post H pc ls (.int x :: st) cells slots := by
  intro p l e s m args below meth c D dA b X HH locs lsr hP hS hL
  exact lv_if_ne X.1 X.2.1 hd ht (fun h => kt h p l e s m args below meth c D dA b X HH locs lsr hP hS hL) (fun h => kf h p l e s m args below meth c D dA b X HH locs lsr hP hS hL)
theorem ew_ifnull {off : Int} {tgt : Nat} {v : Option Nat} (hd : decode M.2.1 pc = .ok (.ifnull off, 3)) (ht : (pc : Int) + off = (tgt : Int)) (kt : v = none → ex_W M d mc ms post H tgt ls st cells slots) (kf : ∀ a, v = some a → ex_W M d mc ms post H (pc + 3) ls st cells slots) : ex_W M d mc ms post H pc ls (va_rf v :: st) cells slots := by
  intro p l e s m args below meth c D dA b X HH locs lsr hP hS hL
  cases v with
  | none => exact lv_ifnullN X.1 X.2.1 hd ht (kt rfl p l e s m args below meth c D dA b X HH locs lsr hP hS hL)
  | some a => exact lv_ifnull X.1 X.2.1 hd (kf a rfl p l e s m args below meth c D dA b X HH locs lsr hP hS hL)
theorem ew_ifnonnull {off : Int} {tgt : Nat} {v : Option Nat} (hd : decode M.2.1 pc = .ok (.ifnonnull off, 3)) (ht : (pc : Int) + off = (tgt : Int)) (kt : ∀ a, v = some a → ex_W M d mc ms post H tgt ls st cells slots) (kf : v = none → ex_W M d mc ms post H (pc + 3) ls st cells slots) : ex_W M d mc ms post H pc ls (va_rf v :: st) cells slots := by
  intro p l e s m args below meth c D dA b X HH locs lsr hP hS hL
  cases v with
  | none => exact lv_ifnonnullN X.1 X.2.1 hd (kf rfl p l e s m args below meth c D dA b X HH locs lsr hP hS hL)
  | some a => exact lv_ifnonnull X.1 X.2.1 hd ht (kt a rfl p l e s m args below meth c D dA b X HH locs lsr hP hS hL)
theorem ew_tableIn {dflt lo hi : Int} {offs : Array Int} {len : Nat} {x : Int32} {off : Int} {tgt : Nat} (hd : decode M.2.1 pc = .ok (.tableswitch dflt lo hi offs, len)) (h1 : ¬ x.toInt < lo) (h2 : ¬ hi < x.toInt) (ho : offs[(x.toInt - lo).toNat]? = some off) (ht : (pc : Int) + off = (tgt : Int)) (k : ex_W M d mc ms post H tgt ls st cells slots) : ex_W M d mc ms post H pc ls (.int x :: st) cells slots := by
  intro p l e s m args below meth c D dA b X HH locs lsr hP hS hL
  exact lv_tableIn X.1 X.2.1 hd h1 h2 ho ht (k p l e s m args below meth c D dA b X HH locs lsr hP hS hL)
theorem ew_tableOut {dflt lo hi : Int} {offs : Array Int} {len : Nat} {x : Int32} {tgt : Nat} (hd : decode M.2.1 pc = .ok (.tableswitch dflt lo hi offs, len)) (h : x.toInt < lo ∨ hi < x.toInt) (ht : (pc : Int) + dflt = (tgt : Int)) (k : ex_W M d mc ms post H tgt ls st cells slots) : ex_W M d mc ms post H pc ls (.int x :: st) cells slots := by
  intro p l e s m args below meth c D dA b X HH locs lsr hP hS hL
  exact lv_tableOut X.1 X.2.1 hd h ht (k p l e s m args below meth c D dA b X HH locs lsr hP hS hL)
theorem ew_lookup {dflt : Int} {ps : Array (Int × Int)} {len : Nat} {x : Int32} {off : Int} {tgt : Nat} (hd : decode M.2.1 pc = .ok (.lookupswitch dflt ps, len)) (hp : (ps.toList.zip (ps.toList.drop 1)).all (fun (a, next) => a.1 < next.1) = true) (ho : Op.lookupswitch.offset ps.toList dflt x.toInt = off) (ht : (pc : Int) + off = (tgt : Int)) (k : ex_W M d mc ms post H tgt ls st cells slots) : ex_W M d mc ms post H pc ls (.int x :: st) cells slots := by
  intro p l e s m args below meth c D dA b X HH locs lsr hP hS hL
  exact lv_lookup X.1 X.2.1 hd hp ho ht (k p l e s m args below meth c D dA b X HH locs lsr hP hS hL)
/-- a field, by the class's number and the field's place -/
def ex_F (own : String) (idx ci j : Nat) (ty : FieldType) (fin : Bool) : Prop := ∃ (C : String) (T : u_T) (N : Nat) (t0 : Nat → FieldType), vwCl[ci]? = some (C, T, N) ∧ j < N ∧ (∀ w ∈ u_ws C T N, w ∈ ex_g) ∧ (∀ k, k < N → parseFieldDescriptor (T k).2.2.1 = some (t0 k)) ∧ (∀ a, a < N → ∀ b, b < N → a ≠ b → (T a).2.1 ≠ (T b).2.1) ∧ t0 j = ty ∧ (T j).2.2.2 = fin ∧ (T j).1 = C ∧ Cond.fieldLink own idx (T j).1 (T j).2.1 (T j).2.2.1 ∈ ex_g
theorem ew_get {idx ci j a : Nat} {ty : FieldType} {fin : Bool} {fs : List Value} {v : Value} (hd : decode M.2.1 pc = .ok (.getfield idx, 3)) (hF : ex_F M.1.cls idx ci j ty fin) (hH : H[a]? = some (ob ci fs)) (hv : fs[j]? = some v) (k : ex_W M d mc ms post H (pc + 3) ls (v :: st) cells slots) : ex_W M d mc ms post H pc ls (.ref a :: st) cells slots := by
  intro p l e s m args below meth c D dA b X HH locs lsr hP hS hL
  obtain ⟨C, T, N, t0, h1, h2, h3, h4, h5, h6, h7, h8, h9⟩ := hF
  refine va_get (D := D) (cl := vwCl) (ws := [(b.1 + a, .inr (ci, fs.map (ex_v b)))]) X.1 X.2.1 X.2.2.2.2.2.2.2.1 h3 X.2.2.2.2.2.1 X.2.2.2.2.2.2.2.2.1.1 (fun q0 q hq => ?_) 0 rfl h1 j h2 (X.2.2.2.2.2.2.2.1 _ h9) (fun _ h => h) (v := ex_v b v) (by rw [List.getElem?_map, hv]; rfl) hd (k p l e s m args below meth c D dA b X HH locs lsr hP hS hL)
  cases q0 with
  | zero => cases hq; exact hP.2 a _ hH
  | succ q0 => simp at hq
theorem ex_fit {ty : FieldType} {v : Value} (b : ex_B) (h : narrow ty v = v ∧ fits ty v = true ∧ ∀ a, v ≠ .retAddr a) : narrow ty (ex_v b v) = ex_v b v ∧ fits ty (ex_v b v) = true := by
  cases v with
  | ref a => exact ⟨by cases ty <;> rfl, by have := h.2.1; cases ty <;> first | rfl | (simp [fits] at this)⟩
  | retAddr a => exact absurd rfl (h.2.2 a)
  | _ => exact ⟨h.1, h.2.1⟩
theorem ew_put {idx ci j a : Nat} {ty : FieldType} {fs : List Value} {v : Value} (hd : decode M.2.1 pc = .ok (.putfield idx, 3)) (hF : ex_F M.1.cls idx ci j ty false) (hH : H[a]? = some (ob ci fs)) (hl : j < fs.length) (hv : narrow ty v = v ∧ fits ty v = true ∧ ∀ a, v ≠ .retAddr a) (k : ex_W M d mc ms post (H.set a (ob ci (fs.set j v))) (pc + 3) ls st cells slots) : ex_W M d mc ms post H pc ls (v :: .ref a :: st) cells slots := by
  intro p l e s m args below meth c D dA b X HH locs lsr hP hS hL
  obtain ⟨C, T, N, t0, h1, h2, h3, h4, h5, h6, h7, h8, h9⟩ := hF
  have hts := X.2.2.2.2.2.2.2.1
  have hK := X.2.2.2.2.2.2.2.2.1.1
  have hown := X.2.2.2.2.2.1
  have hap := va_apart (own := M.1.cls) hts h3 t0 h4 h5 hK h1
  obtain ⟨r, g1, cell, q1, q2, q3, q4⟩ := hP.2 a _ hH
  have hr : r = (C, T, N) := Option.some.inj (g1.symm.trans h1)
  subst hr
  obtain ⟨hS1, hfc, kC, hkC, hkind⟩ := hK.1 ci _ h1
  obtain ⟨cf, kf, fi, f, hi, hsl⟩ := hS1 j h2
  have hlay := hts _ (h3 _ (u_in_lay h2))
  unfold u_lay at hlay
  rw [if_neg (by rw [h7]; decide)] at hlay
  have hst := (u_facts hfc hkC (u_lays hts h3 h2) hi).1
  obtain ⟨v1, v2⟩ := ex_fit b hv
  have hp6 : parseFieldDescriptor (T j).2.2.1 = some ty := by rw [← h6]; exact h4 j h2
  have g6 := u_store hfc hkC hkind hlay hi hp6 v1 v2
  refine W.putK X.1 X.2.1 (f := f) ⟨hown, hts _ h9, ⟨_, _, _, hi⟩, hst⟩ (by rw [q2]; exact g6) q1 q3 (by rw [hsl]; exact k2_hasslot (q4 j h2)) rfl rfl hd fun H1 e1 e2 e3 => ?_
  rw [hsl] at e1 ⊢
  refine k p l e s m args below meth c D dA b X H1 _ lsr (hP.set hH e2 e3 ?_) (hS.put e2 e3 (Nat.le_add_right _ _)) hL
  refine ⟨_, h1, t_OB.to (V := updV (vp_V (fs.map (ex_v b))) j (ex_v b v)) ⟨_, e1, q2, q3, t_set q4 hap h2 (ex_v b v)⟩ (fun i _ => ?_)⟩
  rw [vp_updV_set (by rw [List.length_map]; exact hl), List.map_set]
theorem ew_putF {idx ci j a : Nat} {ty : FieldType} {fs : List Value} {v : Value} (hd : decode M.2.1 pc = .ok (.putfield idx, 3)) (hF : ex_F M.1.cls idx ci j ty true) (hin : M.1.name = "<init>") (hC : (vwCl[ci]?).map (fun q => q.1) = some M.1.cls) (hH : H[a]? = some (ob ci fs)) (hl : j < fs.length) (hv : narrow ty v = v ∧ fits ty v = true ∧ ∀ a, v ≠ .retAddr a) (k : ex_W M d mc ms post (H.set a (ob ci (fs.set j v))) (pc + 3) ls st cells slots) : ex_W M d mc ms post H pc ls (v :: .ref a :: st) cells slots := by
  intro p l e s m args below meth c D dA b X HH locs lsr hP hS hL
  obtain ⟨C, T, N, t0, h1, h2, h3, h4, h5, h6, h7, h8, h9⟩ := hF
  have hts := X.2.2.2.2.2.2.2.1
  have hK := X.2.2.2.2.2.2.2.2.1.1
  have hown := X.2.2.2.2.2.1
  have hap := va_apart (own := M.1.cls) hts h3 t0 h4 h5 hK h1
  obtain ⟨r, g1, cell, q1, q2, q3, q4⟩ := hP.2 a _ hH
  have hr : r = (C, T, N) := Option.some.inj (g1.symm.trans h1)
  subst hr
  obtain ⟨hS1, hfc, kC, hkC, hkind⟩ := hK.1 ci _ h1
  obtain ⟨cf, kf, fi, f, hi, hsl⟩ := hS1 j h2
  have hlay := hts _ (h3 _ (u_in_lay h2))
  unfold u_lay at hlay
  rw [if_pos h7] at hlay
  have hst := (u_facts hfc hkC (u_lays hts h3 h2) hi).1
  have hdecl : (T j).1 = M.1.cls := by
    rw [h1] at hC
    rw [h8]
    exact Option.some.inj hC
  have hcf : m.cls = cf := by
    obtain ⟨_, _, c', _, _, _, -, -, hf', -, -, -, hown2, -⟩ := Cond.laysFinal_spec hlay
    have e1 : c' = cf := by have := hi.symm.trans hf'; simp at this; exact this.1.symm
    rw [hdecl] at hown2
    rw [← e1]; exact Option.some.inj (hown.symm.trans hown2)
  obtain ⟨v1, v2⟩ := ex_fit b hv
  have hp6 : parseFieldDescriptor (T j).2.2.1 = some ty := by rw [← h6]; exact h4 j h2
  have g6 := u_fits hfc hkC hkind (Or.inr hlay) hi hp6 v1 v2
  refine W.putFinK X.1 X.2.1 hown (hts _ h9) hi hst hcf (X.2.2.2.2.2.2.1.trans hin) (by rw [q2]; exact g6) q1 q3 (by rw [hsl]; exact k2_hasslot (q4 j h2)) rfl rfl hd fun H1 e1 e2 e3 => ?_
  rw [hsl] at e1 ⊢
  refine k p l e s m args below meth c D dA b X H1 _ lsr (hP.set hH e2 e3 ?_) (hS.put e2 e3 (Nat.le_add_right _ _)) hL
  refine ⟨_, h1, t_OB.to (V := updV (vp_V (fs.map (ex_v b))) j (ex_v b v)) ⟨_, e1, q2, q3, t_set q4 hap h2 (ex_v b v)⟩ (fun i _ => ?_)⟩
  rw [vp_updV_set (by rw [List.length_map]; exact hl), List.map_set]
/-- an index: the number j, below n -/
def ex_ix (i : Int32) (n j : Nat) : Prop := i = nI j ∧ j < n ∧ n < 2 ^ 31
theorem ex_ix.in {i : Int32} {n j : Nat} (h : ex_ix i n j) : vp_in i n := by rw [h.1]; exact vp_in_nI h.2.1 h.2.2
theorem ex_ix.at {i : Int32} {n j : Nat} (h : ex_ix i n j) : i.toNatClampNeg = j := by rw [h.1]; exact nI_clamp (Nat.lt_trans h.2.1 h.2.2)
theorem ew_iald {a n : Nat} {f : Nat → Int32} {i : Int32} (j : Nat) (hd : decode M.2.1 pc = .ok (.iaload, 1)) (hH : H[a]? = some (ar .int n f)) (hi : ex_ix i n j) (k : ex_W M d mc ms post H (pc + 1) ls (.int (f j) :: st) cells slots) : ex_W M d mc ms post H pc ls (.int i :: .ref a :: st) cells slots := by
  intro p l e s m args below meth c D dA b X HH locs lsr hP hS hL
  have hk := k p l e s m args below meth c D dA b X HH locs lsr hP hS hL
  have e0 := hi.at
  subst e0
  exact va_iald (D := D) (cl := vwCl) (ws := [(b.1 + a, .inl (dA .int, n, .inl f))]) X.1 X.2.1 X.2.2.2.2.2.2.2.2.1.1 (fun q0 q hq => by
    cases q0 with
    | zero => cases hq; exact hP.2 a _ hH
    | succ q0 => simp at hq) 0 0 rfl rfl hi.in hd hk
theorem ew_zald {a n : Nat} {f : Nat → Int32} {i : Int32} (j : Nat) (hd : decode M.2.1 pc = .ok (.baload, 1)) (hH : H[a]? = some (ar .boolean n f)) (hi : ex_ix i n j) (k : ex_W M d mc ms post H (pc + 1) ls (.int (f j) :: st) cells slots) : ex_W M d mc ms post H pc ls (.int i :: .ref a :: st) cells slots := by
  intro p l e s m args below meth c D dA b X HH locs lsr hP hS hL
  have hk := k p l e s m args below meth c D dA b X HH locs lsr hP hS hL
  have e0 := hi.at
  subst e0
  exact va_zald (D := D) (cl := vwCl) (ws := [(b.1 + a, .inl (dA .boolean, n, .inl f))]) X.1 X.2.1 X.2.2.2.2.2.2.2.2.1.1 (fun q0 q hq => by
    cases q0 with
    | zero => cases hq; exact hP.2 a _ hH
    | succ q0 => simp at hq) 0 1 rfl rfl hi.in hd hk
theorem ew_iast {a n : Nat} {f : Nat → Int32} {i x : Int32} (j : Nat) (hd : decode M.2.1 pc = .ok (.iastore, 1)) (hH : H[a]? = some (ar .int n f)) (hi : ex_ix i n j) (k : ex_W M d mc ms post (H.set a (ar .int n (upd f j x))) (pc + 1) ls st cells slots) : ex_W M d mc ms post H pc ls (.int x :: .int i :: .ref a :: st) cells slots := by
  intro p l e s m args below meth c D dA b X HH locs lsr hP hS hL
  have hin := hi.in
  have e0 := hi.at
  subst e0
  refine W.iast X.1 X.2.1 (hP.2 a _ hH) ((X.2.2.2.2.2.2.2.2.1.1.2 0 _ rfl).1 n (fun j => .int (f j))) (fun q => by cases q) (by show ¬ (i < 0 ∨ (arrV _ _ _).slots.size ≤ _); rw [arrV_size]; exact hin) rfl rfl hd fun H1 e z oq => ?_
  refine k p l _ s m args below meth c D dA b X H1 _ lsr (hP.set hH z oq ?_) (hS.put z oq (Nat.le_add_right _ _)) hL
  show H1[b.1 + a]? = some (vp_cell _ _)
  rw [e]
  show some ((vp_cell (dA .int) (n, .inl f)).setSlot _ _) = some (vp_cell (dA .int) (n, .inl (upd f _ x)))
  rw [vp_cell_i, vp_cell_i, arrV_store]
  congr 2
  funext q
  by_cases hq : q = i.toNatClampNeg
  · subst hq
    simp [updV, upd]
  · simp [updV, upd, hq]
theorem ew_zast {a n : Nat} {f : Nat → Int32} {i x : Int32} (j : Nat) (hd : decode M.2.1 pc = .ok (.bastore, 1)) (hH : H[a]? = some (ar .boolean n f)) (hi : ex_ix i n j) (hx : x &&& 1 = x) (k : ex_W M d mc ms post (H.set a (ar .boolean n (upd f j x))) (pc + 1) ls st cells slots) : ex_W M d mc ms post H pc ls (.int x :: .int i :: .ref a :: st) cells slots := by
  intro p l e s m args below meth c D dA b X HH locs lsr hP hS hL
  have hin := hi.in
  have e0 := hi.at
  subst e0
  refine W.zast X.1 X.2.1 (hP.2 a _ hH) ((X.2.2.2.2.2.2.2.2.1.1.2 1 _ rfl).1 n (fun j => .int (f j))) (fun q => by cases q) (by show ¬ (i < 0 ∨ (arrV _ _ _).slots.size ≤ _); rw [arrV_size]; exact hin) rfl rfl hd fun H1 e z oq => ?_
  refine k p l _ s m args below meth c D dA b X H1 _ lsr (hP.set hH z oq ?_) (hS.put z oq (Nat.le_add_right _ _)) hL
  show H1[b.1 + a]? = some (vp_cell _ _)
  rw [e]
  show some ((vp_cell (dA .boolean) (n, .inl f)).setSlot _ (.int (x &&& 1))) = some (vp_cell (dA .boolean) (n, .inl (upd f _ x)))
  rw [hx, vp_cell_i, vp_cell_i, arrV_store]
  congr 2
  funext q
  by_cases hq : q = i.toNatClampNeg
  · subst hq
    simp [updV, upd]
  · simp [updV, upd, hq]
theorem ex_v_rf (b : ex_B) (r : Option Nat) : ex_v b (va_rf r) = va_rf (r.map (fun k => b.1 + k)) := by cases r <;> rfl
/-- the place of an array class of references in ex_tys -/
def ex_rt (C : String) (t0 : Nat) : Prop := ∀ dA : FieldType → ClassId, (ex_tys dA)[t0]? = some (dA (.object C), .object C)
theorem ew_aald {a n t0 : Nat} {C : String} {f : Nat → Option Nat} {i : Int32} (j : Nat) (hd : decode M.2.1 pc = .ok (.aaload, 1)) (hH : H[a]? = some (rr C n f)) (hC : ex_rt C t0) (hi : ex_ix i n j) (k : ex_W M d mc ms post H (pc + 1) ls (va_rf (f j) :: st) cells slots) : ex_W M d mc ms post H pc ls (.int i :: .ref a :: st) cells slots := by
  intro p l e s m args below meth c D dA b X HH locs lsr hP hS hL
  have hk := k p l e s m args below meth c D dA b X HH locs lsr hP hS hL
  have e0 := hi.at
  subst e0
  rw [List.map_cons, ex_v_rf] at hk
  exact va_aldq (D := D) (cl := vwCl) (ws := [(b.1 + a, .inl (dA (.object C), n, .inr (.inr (.inr (.inr (fun j => (f j).map (fun k => b.1 + k)))))))]) X.1 X.2.1 X.2.2.2.2.2.2.2.2.1.1 (fun q0 q hq => by
    cases q0 with
    | zero => cases hq; exact hP.2 a _ hH
    | succ q0 => simp at hq) 0 t0 rfl (hC dA) hi.in hd hk
theorem ew_aast {a n t0 v ci : Nat} {C : String} {f : Nat → Option Nat} {i : Int32} {vs : List Value} (j : Nat) (hd : decode M.2.1 pc = .ok (.aastore, 1)) (hH : H[a]? = some (rr C n f)) (hC : ex_rt C t0) (hV : H[v]? = some (ob ci vs)) (hc : (vwCl[ci]?).map (fun q => q.1) = some C) (hi : ex_ix i n j) (k : ex_W M d mc ms post (H.set a (rr C n (va_up f j (some v)))) (pc + 1) ls st cells slots) : ex_W M d mc ms post H pc ls (.ref v :: .int i :: .ref a :: st) cells slots := by
  intro p l e s m args below meth c D dA b X HH locs lsr hP hS hL
  have hin := hi.in
  have e0 := hi.at
  subst e0
  have hK := X.2.2.2.2.2.2.2.2.1.1
  have hlt : i.toNatClampNeg < n := Nat.not_le.mp fun q => hin (Or.inr q)
  have h0 : ¬ i < 0 := fun q => hin (Or.inl q)
  obtain ⟨r, hr⟩ : ∃ r, vwCl[ci]? = some r := by
    cases h : vwCl[ci]? with
    | none => rw [h] at hc; cases hc
    | some r => exact ⟨r, rfl⟩
  have hrC : r.1 = C := by rw [hr] at hc; exact Option.some.inj hc
  obtain ⟨r', hr', cellV, g1, g2, g3, -⟩ := hP.2 v _ hV
  have hcls := (hK.1 ci r hr).2
  obtain ⟨kA, comp, k1, k2, k3, -⟩ := (hK.2 t0 _ (hC dA)).2
  have hcomp : comp = D.1 ci := Option.some.inj (k3.symm.trans (by rw [← hrC]; exact hcls.1))
  subst hcomp
  obtain ⟨kC, hkC, -⟩ := hcls.2
  refine W.aast X.1 X.2.1 (hP.2 a _ hH) (fun q h => by cases h) (fun h => by cases h) k1 k2 rfl hkC ⟨h0, by show _ < (arrV _ _ _).slots.size; rw [arrV_size]; exact hlt⟩ g1 (fun q h => by rw [g3] at h; cases h) (by rw [g2]; exact hkC) (by rw [g2]; exact va_assign hcls) rfl rfl hd fun H1 e z oq => ?_
  refine k p l _ s m args below meth c D dA b X H1 _ lsr (hP.set hH z oq ?_) (hS.put z oq (Nat.le_add_right _ _)) hL
  show H1[b.1 + a]? = some (vp_cell _ _)
  rw [e]
  show some ((vp_cell (dA (.object C)) (n, .inr (.inr (.inr (.inr (fun j => (f j).map (fun k => b.1 + k))))))).setSlot _ _) = some (vp_cell (dA (.object C)) (n, .inr (.inr (.inr (.inr (fun j => (va_up f _ (some v) j).map (fun k => b.1 + k)))))))
  rw [vp_cell_q, vp_cell_q, arrV_store]
  congr 2
  funext q
  by_cases hq : q = i.toNatClampNeg
  · subst hq
    simp [updV, va_up, va_rf]
  · simp [updV, va_up, hq]
theorem ew_alen {a n : Nat} {ty : FieldType} {t0 : Nat} {f : Nat → Int32} (hd : decode M.2.1 pc = .ok (.arraylength, 1)) (hH : H[a]? = some (ar ty n f)) (ht : ∀ dA : FieldType → ClassId, (ex_tys dA)[t0]? = some (dA ty, ty)) (k : ex_W M d mc ms post H (pc + 1) ls (.int (nI n) :: st) cells slots) : ex_W M d mc ms post H pc ls (.ref a :: st) cells slots := by
  intro p l e s m args below meth c D dA b X HH locs lsr hP hS hL
  exact va_alen (D := D) (cl := vwCl) (ws := [(b.1 + a, .inl (dA ty, n, .inl f))]) X.1 X.2.1 X.2.2.2.2.2.2.2.2.1.1 (fun q0 q hq => by
    cases q0 with
    | zero => cases hq; exact hP.2 a _ hH
    | succ q0 => simp at hq) 0 t0 rfl (ht dA) rfl hd (k p l e s m args below meth c D dA b X HH locs lsr hP hS hL)
/-- the script -/
theorem ew_sld {a L : Nat} {xs : Nat → Int32} {i : Int32} (j : Nat) (hd : decode M.2.1 pc = .ok (.iaload, 1)) (hM : M.2.2.2.2 = some (L, xs)) (hi : ex_ix i L j) (k : ex_W M d mc ms post H (pc + 1) ls (.int (xs j) :: st) cells slots) : ex_W M d mc ms post H pc ls (.int i :: .retAddr a :: st) cells slots := by
  intro p l e s m args below meth c D dA b X HH locs lsr hP hS hL
  have hk := k p l e s m args below meth c D dA b X HH locs lsr hP hS hL
  have e0 := hi.at
  subst e0
  obtain ⟨x1, x2, x3⟩ := X.2.2.2.2.2.2.2.2.2 L xs hM
  exact va_sld X.1 X.2.1 x1 x2 (Nat.not_le.mpr x3) hS hi.in hd hk
theorem ew_slen {a L : Nat} {xs : Nat → Int32} (hd : decode M.2.1 pc = .ok (.arraylength, 1)) (hM : M.2.2.2.2 = some (L, xs)) (k : ex_W M d mc ms post H (pc + 1) ls (.int (nI L) :: st) cells slots) : ex_W M d mc ms post H pc ls (.retAddr a :: st) cells slots := by
  intro p l e s m args below meth c D dA b X HH locs lsr hP hS hL
  obtain ⟨x1, x2, x3⟩ := X.2.2.2.2.2.2.2.2.2 L xs hM
  exact va_slen X.1 X.2.1 x1 x2 (Nat.not_le.mpr x3) hS hd (k p l e s m args below meth c D dA b X HH locs lsr hP hS hL)

/-- a class that is made: its number, its size, its fields at first -/
def ex_N (own : String) (idx ci N : Nat) (fs : List Value) : Prop := ∃ (C : String) (T : u_T) (t0 : Nat → FieldType), vwCl[ci]? = some (C, T, N) ∧ (∀ w ∈ u_ws C T N, w ∈ ex_g) ∧ (∀ k, k < N → parseFieldDescriptor (T k).2.2.1 = some (t0 k)) ∧ Cond.classLink own idx C ∈ ex_g ∧ Cond.instantiable C N ∈ ex_g ∧ Cond.initialized C ∈ ex_g ∧ (∀ (b : ex_B) (j : Nat), j < N → defaultValue (t0 j) = vp_V (fs.map (ex_v b)) j)
theorem ew_new {idx ci N : Nat} {fs : List Value} (hd : decode M.2.1 pc = .ok (.new idx, 3)) (hN : ex_N M.1.cls idx ci N fs) (hc : cells + 1 ≤ mc) (hs : slots + N ≤ ms) (k : ex_W M d mc ms post (H ++ [ob ci fs]) (pc + 3) ls (.ref H.length :: st) (cells + 1) (slots + N)) : ex_W M d mc ms post H pc ls st cells slots := by
  intro p l e s m args below meth c D dA b X HH locs lsr hP hS hL
  obtain ⟨C, T, t0, h1, h2, h3, h4, h5, h6, h7⟩ := hN
  have hts := X.2.2.2.2.2.2.2.1
  have hKn := X.2.2.2.2.2.2.2.2.1.1.1 ci _ h1
  refine W.newcK X.1 X.2.1 X.2.2.2.2.2.1 (hts _ h4) (hts _ h5) (hts _ h6) rfl hd hc hs hKn.2.1 rfl fun H1 kC hkC e1 z1 o1 => ?_
  have e2 : HH.size = b.1 + H.length := hP.1
  have hk := k p l e s m args below meth c D dA b X H1 locs lsr (hP.push z1 o1 ?_) ⟨Nat.le_trans hS.1 (by omega), fun x g1 g2 => (o1 x (Nat.lt_of_lt_of_le g1 hS.1)).trans (hS.2.1 x g1 g2), hS.2.2⟩ hL
  · have e3 : F0 m (pc + 3) lsr ((Value.ref H.length :: st).map (ex_v b)) = F0 m (pc + 3) lsr (.ref HH.size :: st.map (ex_v b)) := by rw [e2]; rfl
    rw [e3] at hk
    exact hk
  · rw [← e2]
    exact ⟨_, h1, (u_born t0 hts h2 hKn hkC e1 h3).to (h7 b)⟩
theorem ew_newa {atype : ArrayType} {ty : FieldType} {n : Int32} {N t0 : Nat} (hd : decode M.2.1 pc = .ok (.newarray atype, 2)) (hty : newarray.typeOf atype = ty) (hw : Cond.arrayClass ty ∈ ex_g) (ht : ∀ dA : FieldType → ClassId, (ex_tys dA)[t0]? = some (dA ty, ty)) (hr : ∀ C, ty ≠ .object C) (hdv : defaultValue ty = .int 0) (hn : ¬ n < 0) (hN : n.toNatClampNeg = N) (hbytes : N * componentBytes ty ≤ 536870912) (hc : cells + 1 ≤ mc) (hs : slots + N ≤ ms) (k : ex_W M d mc ms post (H ++ [ar ty N (fun _ => 0)]) (pc + 2) ls (.ref H.length :: st) (cells + 1) (slots + N)) : ex_W M d mc ms post H pc ls (.int n :: st) cells slots := by
  intro p l e s m args below meth c D dA b X HH locs lsr hP hS hL
  subst hty
  have hts := X.2.2.2.2.2.2.2.1
  refine va_newaK X.1 X.2.1 (hts _ hw) rfl hd rfl hn hN hbytes hc hs rfl fun H1 cA e1 z1 o1 hAr hNm => ?_
  have hA : cA = dA (newarray.typeOf atype) := by
    have h := (X.2.2.2.2.2.2.2.2.1.1.2 t0 _ (ht dA)).2
    generalize newarray.typeOf atype = ty at h hNm hr
    cases ty with
    | object C => exact absurd rfl (hr C)
    | _ => exact Option.some.inj (hNm.symm.trans h)
  have e2 : HH.size = b.1 + H.length := hP.1
  have hk := k p l e s m args below meth c D dA b X H1 locs lsr (hP.push z1 o1 ?_) ⟨Nat.le_trans hS.1 (by omega), fun x g1 g2 => (o1 x (Nat.lt_of_lt_of_le g1 hS.1)).trans (hS.2.1 x g1 g2), hS.2.2⟩ hL
  · have e3 : F0 m (pc + 2) lsr ((Value.ref H.length :: st).map (ex_v b)) = F0 m (pc + 2) lsr (.ref HH.size :: st.map (ex_v b)) := by rw [e2]; rfl
    rw [e3] at hk
    exact hk
  · rw [← e2]
    show H1[HH.size]? = some (vp_cell (dA (newarray.typeOf atype)) (N, .inl (fun _ => 0)))
    rw [e1, hA, hdv]
    rfl
theorem ew_anew {idx N t0 : Nat} {C : String} {n : Int32} (hd : decode M.2.1 pc = .ok (.anewarray idx, 3)) (hcl : Cond.classLink M.1.cls idx C ∈ ex_g) (hov : Cond.arrayOver (.object C) ∈ lw_tbl) (hC : ex_rt C t0) (hn : ¬ n < 0) (hN : n.toNatClampNeg = N) (hbytes : N * 4 ≤ 536870912) (hc : cells + 1 ≤ mc) (hs : slots + N ≤ ms) (k : ex_W M d mc ms post (H ++ [rr C N (fun _ => none)]) (pc + 3) ls (.ref H.length :: st) (cells + 1) (slots + N)) : ex_W M d mc ms post H pc ls (.int n :: st) cells slots := by
  intro p l e s m args below meth c D dA b X HH locs lsr hP hS hL
  have hts := X.2.2.2.2.2.2.2.1
  subst hN
  refine W.anew X.1 X.2.1 X.2.2.2.2.2.1 (hts _ hcl) (X.2.2.2.2.2.2.2.2.1.2.2 C hov).use rfl hd rfl hn hbytes hc hs fun cA kA comp f1 f2 f3 f4 => ?_
  have hA : cA = dA (.object C) := by
    obtain ⟨kA', comp', -, -, -, h4⟩ := (X.2.2.2.2.2.2.2.2.1.1.2 t0 _ (hC dA)).2
    exact Option.some.inj (f1.symm.trans h4)
  have e2 : HH.size = b.1 + H.length := hP.1
  have hk := k p l e s m args below meth c D dA b X (HH.push { cls := cA, slots := Array.replicate n.toNatClampNeg .null, vm := .none }) locs lsr (hP.push (by simp) (fun q hq => by rw [Array.getElem?_push, if_neg (Nat.ne_of_lt hq)]) ?_) ⟨Nat.le_trans hS.1 (by simp), fun x g1 g2 => by
    have hx : x < HH.size := Nat.lt_of_lt_of_le g1 hS.1
    rw [Array.getElem?_push, if_neg (Nat.ne_of_lt hx)]
    exact hS.2.1 x g1 g2, hS.2.2⟩ hL
  · have e3 : F0 m (pc + 3) lsr ((Value.ref H.length :: st).map (ex_v b)) = F0 m (pc + 3) lsr (.ref HH.size :: st.map (ex_v b)) := by rw [e2]; rfl
    rw [e3] at hk
    exact hk
  · rw [← e2]
    show (HH.push _)[HH.size]? = some (vp_cell (dA (.object C)) (n.toNatClampNeg, .inr (.inr (.inr (.inr (fun _ => none))))))
    rw [arrV_new, ← hA]
    simp
    rfl
theorem ew_objInit {idx a : Nat} (hd : decode M.2.1 pc = .ok (.invokespecial idx, 3)) (h1 : Cond.methodLink M.1.cls idx Lib.objectInit ∈ ex_g) (h2 : Cond.instanceMethod Lib.objectInit ∈ ex_g) (h3 : Cond.code Lib.objectInit ⟨#[0xb1]⟩ 1 none ∈ ex_g) (hf : 1 ≤ d) (hst : st = []) (k : ex_W M d mc ms post H (pc + 3) ls st cells slots) : ex_W M d mc ms post H pc ls (.ref a :: st) cells slots := by
  intro p l e s m args below meth c D dA b X HH locs lsr hP hS hL
  have hts := X.2.2.2.2.2.2.2.1
  subst hst
  refine W.objInit X.1 X.2.1 X.2.2.2.2.2.1 (hts _ h1) (hts _ h2) (hts _ h3) rfl (hL.1.trans X.2.2.2.2.1.symm) rfl hd hf ?_ (k p l e s m args below meth c D dA b X HH locs lsr hP hS hL)
  show 2 * 0 + 0 + 12 ≤ 38 * d + 4
  omega
/-- what a call needs of the tables -/
def ex_cm (N : ex_M) (n : Nat) : Prop := Cond.code N.1 N.2.1 N.2.2.1 N.2.2.2.1 ∈ ex_g ∧ Cond.initialized N.1.cls ∈ ex_g ∧ (N.1.cls ≠ "java/lang/invoke/MethodHandle" ∧ N.1.cls ≠ "java/lang/invoke/VarHandle" ∧ (parseMethodDescriptor N.1.desc).map (fun d => d.parameters.length) = some n) ∧ N.2.2.1 ≤ 19
theorem ex_good {N : ex_M} {n : Nat} (h : ex_cm N n) : GoodIn ex_g (.code N.1 N.2.1 N.2.2.1 N.2.2.2.1 :: ex_g) := fun w hw => by
  rcases List.mem_cons.mp hw with rfl | hw
  · exact ⟨h.1, ex_g_good _ h.1⟩
  · exact ⟨hw, ex_g_good _ hw⟩
theorem ex_blind (D : va_G) (dA : FieldType → ClassId) (b : ex_B) (H : ex_H) (As : List Value) : FrameBlind (va_Pc (As.map (ex_v b)) (fun U => ex_P D dA b H U.heap ∧ ex_K D dA U)) := fun a U g mk q => ⟨q.1, q.2.1, q.2.2.same rfl⟩
theorem ex_cont {p : Program} {l : Launch} {e : Env} {R : Room} {s : State} {m : MethodId} {args : Array Value} {below : List Frame} {meth : Method} {c : Code} {HH H0 : Heap} {locs : List Loc} {cells slots mc' ms' : Nat} {Q : State → Prop} {D : va_G} {dA : FieldType → ClassId} {b : ex_B} {post' : ex_H → Option Value → Prop} {pc : Nat} {lsr : Array Slot} {st0 rest : List Value} {a : Array Value}
    (hr : va_Run p l e R s m args below meth c HH locs cells slots mc' ms' (F0 m pc lsr st0) rest (ex_Q D dA b post' a) (fun q => b.1 ≤ q)) (hS : va_S (fun q => b.1 ≤ q) H0 HH locs)
    (kk : ∀ (H' : ex_H) (r : Option Value) (H1 : Heap) (locs1 : List Loc), post' H' r → ex_P D dA b H' H1 → va_S (fun q => b.1 ≤ q) H0 H1 locs1 → W p l e R s m args below meth c H1 locs1 (cells + mc') (slots + ms') Q (F0 m (pc + 3) lsr ((r.map (ex_v b)).toList ++ rest))) : W p l e R s m args below meth c HH locs cells slots Q (F0 m pc lsr st0) := by
  intro T hT X
  obtain ⟨v, st₀, t, T', L, h0, X', hL, e1, e2, ⟨⟨H', r, hv, hp, hb⟩, hz, hk⟩, st⟩ := hr T hT X
  have hv : v = r.map (ex_v b) := by simpa using hv
  subst hv
  rw [h0] at hz hk
  obtain ⟨t2, a1, b1⟩ := kk H' r T'.heap (locs ++ L) hp (by rw [e1]; exact hb)
    ⟨Nat.le_trans hS.1 (by rw [e1]; exact hz), fun q h1 h2 => by rw [e1, hk q (Nat.lt_of_lt_of_le h1 hS.1) h2]; exact hS.2.1 q h1 h2, fun q hq => by
      rcases List.mem_append.mp hq with h | h
      · exact hS.2.2 q h
      · exact hL q h⟩ T' rfl X'
  exact ⟨t2, st t2 a1, b1⟩
theorem ex_room (b : ex_B) (st : List Value) (h : (st.map fun v => v.category).sum ≤ 8) : ((st.map (ex_v b)).map fun v => v.category).sum ≤ 8 := by
  have : (st.map (ex_v b)).map (fun v => v.category) = st.map (fun v => v.category) := by
    rw [List.map_map]
    exact List.map_congr_left (fun v _ => ex_v_cat b v)
  rw [this]; exact h
theorem ex_tostack (b : ex_B) (r : Option Value) (st : List Value) : (r.map (ex_v b)).toList ++ st.map (ex_v b) = (r.toList ++ st).map (ex_v b) := by cases r <;> rfl
def ex_V (own : String) (idx : Nat) (N : ex_M) (n : Nat) : Prop := ex_cm N n ∧ Cond.methodLink own idx N.1 ∈ ex_g ∧ Cond.instanceMethod N.1 ∈ ex_g ∧ Cond.selects N.1.cls N.1 N.1 ∈ ex_g
theorem ew_callV {idx n a ci mc' ms' : Nat} {N : ex_M} {As fs : List Value} {post' : ex_H → Option Value → Prop} (hd : decode M.2.1 pc = .ok (.invokevirtual idx, 3)) (hV : ex_V M.1.cls idx N n) (hH : H[a]? = some (ob ci fs)) (hci : (vwCl[ci]?).map (fun q => q.1) = some N.1.cls) (hM : ex_Met N d mc' ms' H (.ref a :: As) post') (hn : As.length = n) (hst : (st.map fun v => v.category).sum ≤ 8) (hc : cells + mc' ≤ mc ∧ slots + ms' ≤ ms) {st0 : List Value} (hs : As.reverse ++ .ref a :: st = st0)
    (k : ∀ (H' : ex_H) (r : Option Value), post' H' r → ex_W M (d + 1) mc ms post H' (pc + 3) ls (r.toList ++ st) (cells + mc') (slots + ms')) : ex_W M (d + 1) mc ms post H pc ls st0 cells slots := by
  intro p l e s m args below meth c D dA b X HH locs lsr hP hS hL
  subst hs
  obtain ⟨hcm, h1, h2, h3⟩ := hV
  have hts := X.2.2.2.2.2.2.2.1
  have hK := X.2.2.2.2.2.2.2.2.1
  obtain ⟨r, hr⟩ : ∃ r, vwCl[ci]? = some r := by
    cases h : vwCl[ci]? with
    | none => rw [h] at hci; cases hci
    | some r => exact ⟨r, rfl⟩
  have hrC : r.1 = N.1.cls := by rw [hr] at hci; exact Option.some.inj hci
  have cb : CallB (ex_R (d + 1) mc ms) s args M.1.cls idx N.1 N.2.1 N.2.2.1 N.2.2.2.1 (.code N.1 N.2.1 N.2.2.1 N.2.2.2.1 :: ex_g) (ex_R d mc' ms') mc' ms' n :=
    callB_of n hts (ex_good hcm) rfl rfl rfl (hts _ hcm.2.1) (hts _ h1) hcm.2.2.1 ⟨Nat.le_refl _, by have := hcm.2.2.2; show 8 + (N.2.2.1 + 11) + (38 * d + 4) ≤ 38 * (d + 1) + 4; omega⟩
  have hrun := va_runV (p := p) (l := l) (e := e) (R := ex_R (d + 1) mc ms) (s := s) (m := m) (args := args) (below := below) (meth := meth) (c := c) (H := HH) (locs := locs) (cells := cells) (slots := slots) (cc := M.2.1) (nL := M.2.2.1) (Ts := ex_g) (own := M.1.cls) (C := N.1.cls) (b := b.1 + a) (As := As.map (ex_v b)) (rest := st.map (ex_v b)) (g := F0 m pc lsr ((As.reverse ++ .ref a :: st).map (ex_v b)))
    ⟨X.1, X.2.1, X.2.2.2.2.1, X.2.2.2.2.2.1, hts⟩ (hM l D dA b) ⟨cb, hts _ h2, hts _ h3⟩
    ⟨ex_blind D dA b H _, by
      obtain ⟨r', g1, cell, q1, q2, q3, q4⟩ := hP.2 a _ hH
      exact ⟨cell, q1, by rw [q3]; rfl, by rw [q2, ← hrC]; exact (hK.1.1 ci r hr).2.1⟩, fun U hU hW => ⟨rfl, by rw [hU]; exact hP, hK.warm hW⟩⟩
    rfl (by rw [List.length_map]; exact hn) hL.1 (by show (As.reverse ++ .ref a :: st).map (ex_v b) = _; rw [List.map_append, List.map_reverse]; rfl) (lv_room (ex_room b st hst)) hd hc
  refine ex_cont hrun hS (fun H' r H1 locs1 hp hP1 hS1 => ?_)
  have hk := k H' r hp p l e s m args below meth c D dA b X H1 locs1 lsr hP1 hS1 hL
  rw [← ex_tostack] at hk
  exact hk
def ex_S (own : String) (idx : Nat) (N : ex_M) (n : Nat) : Prop := ex_cm N n ∧ Cond.static N.1 ∈ ex_g ∧ (Cond.methodLink own idx N.1 ∈ ex_g ∨ ∃ host, Cond.methodLinkNest own idx N.1 host ∈ lw_tbl)
theorem ew_callS {idx n mc' ms' : Nat} {N : ex_M} {As : List Value} {post' : ex_H → Option Value → Prop} (hd : decode M.2.1 pc = .ok (.invokestatic idx, 3)) (hV : ex_S M.1.cls idx N n) (hM : ex_Met N d mc' ms' H As post') (hn : As.length = n) (hst : (st.map fun v => v.category).sum ≤ 8) (hc : cells + mc' ≤ mc ∧ slots + ms' ≤ ms) {st0 : List Value} (hs : As.reverse ++ st = st0)
    (k : ∀ (H' : ex_H) (r : Option Value), post' H' r → ex_W M (d + 1) mc ms post H' (pc + 3) ls (r.toList ++ st) (cells + mc') (slots + ms')) : ex_W M (d + 1) mc ms post H pc ls st0 cells slots := by
  intro p l e s m args below meth c D dA b X HH locs lsr hP hS hL
  subst hs
  obtain ⟨hcm, h1, h2⟩ := hV
  have hts := X.2.2.2.2.2.2.2.1
  have hK := X.2.2.2.2.2.2.2.2.1
  have hrm : (ex_R d mc' ms').frames + 1 ≤ (ex_R (d + 1) mc ms).frames ∧ 8 + (N.2.2.1 + 11) + (ex_R d mc' ms').locals ≤ (ex_R (d + 1) mc ms).locals := ⟨Nat.le_refl _, by have := hcm.2.2.2; show 8 + (N.2.2.1 + 11) + (38 * d + 4) ≤ 38 * (d + 1) + 4; omega⟩
  have hpre : PreS s HH (va_Pc (As.map (ex_v b)) (fun U => ex_P D dA b H U.heap ∧ ex_K D dA U)) (As.map (ex_v b)) := ⟨ex_blind D dA b H _, fun U hU hW => ⟨rfl, by rw [hU]; exact hP, hK.warm hW⟩⟩
  have hrun : va_Run p l e (ex_R (d + 1) mc ms) s m args below meth c HH locs cells slots mc' ms' (F0 m pc lsr ((As.reverse ++ st).map (ex_v b))) (st.map (ex_v b)) (ex_Q D dA b post' (As.map (ex_v b)).toArray) (fun q => b.1 ≤ q) := by
    rcases h2 with h2 | ⟨host, h2⟩
    · exact va_runS (cc := M.2.1) (nL := M.2.2.1) (Ts := ex_g) (own := M.1.cls) ⟨X.1, X.2.1, X.2.2.2.2.1, X.2.2.2.2.2.1, hts⟩ (hM l D dA b) ⟨callB_of n hts (ex_good hcm) rfl rfl rfl (hts _ hcm.2.1) (hts _ h2) hcm.2.2.1 hrm, hts _ h1⟩ hpre rfl (by rw [List.length_map]; exact hn) hL.1 (by show (As.reverse ++ st).map (ex_v b) = _; rw [List.map_append, List.map_reverse]) (lv_room (ex_room b st hst)) hd hc
    · exact va_runSN (cc := M.2.1) (nL := M.2.2.1) (Ts := ex_g) (own := M.1.cls) ⟨X.1, X.2.1, X.2.2.2.2.1, X.2.2.2.2.2.1, hts⟩ (hM l D dA b) ⟨va_cnB n hts (ex_good hcm) rfl rfl rfl (hK.2.1 _ _ _ _ h2) (hts _ hcm.2.1) hcm.2.2.1 hrm, hts _ h1, trivial⟩ hpre rfl (by rw [List.length_map]; exact hn) hL.1 (by show (As.reverse ++ st).map (ex_v b) = _; rw [List.map_append, List.map_reverse]) (lv_room (ex_room b st hst)) hd hc
  refine ex_cont hrun hS (fun H' r H1 locs1 hp hP1 hS1 => ?_)
  have hk := k H' r hp p l e s m args below meth c D dA b X H1 locs1 lsr hP1 hS1 hL
  rw [← ex_tostack] at hk
  exact hk
def ex_I (own : String) (idx : Nat) (N : ex_M) (n : Nat) : Prop := ex_cm N n ∧ Cond.instanceMethod N.1 ∈ ex_g ∧ N.1.name = "<init>" ∧ N.2.2.2.1 = none ∧ (Cond.methodLink own idx N.1 ∈ ex_g ∨ ∃ host, Cond.methodLinkNest own idx N.1 host ∈ lw_tbl)
theorem ew_callI {idx n a mc' ms' : Nat} {N : ex_M} {As : List Value} {post' : ex_H → Option Value → Prop} (hd : decode M.2.1 pc = .ok (.invokespecial idx, 3)) (hV : ex_I M.1.cls idx N n) (hM : ex_Met N d mc' ms' H (.ref a :: As) post') (hn : As.length = n) (hst : (st.map fun v => v.category).sum ≤ 8) (hc : cells + mc' ≤ mc ∧ slots + ms' ≤ ms) {st0 : List Value} (hs : As.reverse ++ .ref a :: st = st0)
    (k : ∀ (H' : ex_H) (r : Option Value), post' H' r → ex_W M (d + 1) mc ms post H' (pc + 3) ls (r.toList ++ st) (cells + mc') (slots + ms')) : ex_W M (d + 1) mc ms post H pc ls st0 cells slots := by
  intro p l e s m args below meth c D dA b X HH locs lsr hP hS hL
  subst hs
  obtain ⟨hcm, h1, hnm, hrt, h2⟩ := hV
  have hts := X.2.2.2.2.2.2.2.1
  have hK := X.2.2.2.2.2.2.2.2.1
  have hrm : (ex_R d mc' ms').frames + 1 ≤ (ex_R (d + 1) mc ms).frames ∧ 8 + (N.2.2.1 + 11) + (ex_R d mc' ms').locals ≤ (ex_R (d + 1) mc ms).locals := ⟨Nat.le_refl _, by have := hcm.2.2.2; show 8 + (N.2.2.1 + 11) + (38 * d + 4) ≤ 38 * (d + 1) + 4; omega⟩
  have hpre : PreS s HH (va_Pc ((Value.ref a :: As).map (ex_v b)) (fun U => ex_P D dA b H U.heap ∧ ex_K D dA U)) (.ref (b.1 + a) :: As.map (ex_v b)) := ⟨ex_blind D dA b H _, fun U hU hW => ⟨rfl, by rw [hU]; exact hP, hK.warm hW⟩⟩
  have hMl := hM l D dA b
  have hgd := ex_good hcm
  have hcm1 := hcm.1
  rw [hrt] at hMl hgd hcm1
  have hrun : va_Run p l e (ex_R (d + 1) mc ms) s m args below meth c HH locs cells slots mc' ms' (F0 m pc lsr ((As.reverse ++ .ref a :: st).map (ex_v b))) (st.map (ex_v b)) (ex_Q D dA b post' (Value.ref (b.1 + a) :: As.map (ex_v b)).toArray) (fun q => b.1 ≤ q) := by
    rcases h2 with h2 | ⟨host, h2⟩
    · exact va_runI (cc := M.2.1) (nL := M.2.2.1) (Ts := ex_g) (own := M.1.cls) ⟨X.1, X.2.1, X.2.2.2.2.1, X.2.2.2.2.2.1, hts⟩ hMl ⟨callB_of n hts hgd rfl rfl rfl (hts _ hcm.2.1) (hts _ h2) hcm.2.2.1 hrm, hnm, hts _ h1⟩ hpre rfl (by rw [List.length_map]; exact hn) hL.1 (by show (As.reverse ++ .ref a :: st).map (ex_v b) = _; rw [List.map_append, List.map_reverse]; rfl) (lv_room (ex_room b st hst)) hd hc
    · exact va_runIN (cc := M.2.1) (nL := M.2.2.1) (Ts := ex_g) (own := M.1.cls) ⟨X.1, X.2.1, X.2.2.2.2.1, X.2.2.2.2.2.1, hts⟩ hMl ⟨va_cnB n hts hgd rfl rfl rfl (hK.2.1 _ _ _ _ h2) (hts _ hcm.2.1) hcm.2.2.1 hrm, hnm, hts _ h1⟩ hpre rfl (by rw [List.length_map]; exact hn) hL.1 (by show (As.reverse ++ .ref a :: st).map (ex_v b) = _; rw [List.map_append, List.map_reverse]; rfl) (lv_room (ex_room b st hst)) hd hc
  refine ex_cont hrun hS (fun H' r H1 locs1 hp hP1 hS1 => ?_)
  have hk := k H' r hp p l e s m args below meth c D dA b X H1 locs1 lsr hP1 hS1 hL
  rw [← ex_tostack] at hk
  exact hk
theorem ew_iret {v : Int32} {ty : FieldType} (hd : decode M.2.1 pc = .ok (.ireturn, 1)) (hr : M.2.2.2.1 = some ty) (hn : narrow ty (.int v) = .int v) (hc : cells ≤ mc) (hs : slots ≤ ms) (hq : post H (some (.int v))) : ex_W M d mc ms post H pc ls [.int v] cells slots := by
  intro p l e s m args below meth c D dA b X HH locs lsr hP hS hL
  have hlocks := X.2.2.2.1
  refine W.widen hc hs ?_
  exact W.zret X.1 X.2.1 (X.2.2.1.trans hr) hn (fun t ht hW => ⟨⟨H, some (.int v), rfl, hq, by rw [ht]; exact hP⟩, hS.F ht⟩) hS.2.2 hd
theorem ew_vret (hd : decode M.2.1 pc = .ok (.return_, 1)) (hr : M.2.2.2.1 = none) (hc : cells ≤ mc) (hs : slots ≤ ms) (hq : post H none) : ex_W M d mc ms post H pc ls [] cells slots := by
  intro p l e s m args below meth c D dA b X HH locs lsr hP hS hL
  have hlocks := X.2.2.2.1
  refine W.widen hc hs ?_
  exact W.vret X.1 X.2.1 (X.2.2.1.trans hr) (fun t ht hW => ⟨⟨H, none, rfl, hq, by rw [ht]; exact hP⟩, hS.F ht⟩) hS.2.2 hd
theorem ew_aret {v : Option Nat} {C : String} (hd : decode M.2.1 pc = .ok (.areturn, 1)) (hr : M.2.2.2.1 = some (.object C)) (hc : cells ≤ mc) (hs : slots ≤ ms) (hq : post H (some (va_rf v))) : ex_W M d mc ms post H pc ls [va_rf v] cells slots := by
  intro p l e s m args below meth c D dA b X HH locs lsr hP hS hL
  have hlocks := X.2.2.2.1
  refine W.widen hc hs ?_
  exact W.aret X.1 X.2.1 (X.2.2.1.trans hr) (Or.inl ⟨C, rfl⟩) (by cases v with
    | none => exact Or.inl rfl
    | some a => exact Or.inr ⟨_, rfl⟩) (fun t ht hW => ⟨⟨H, some (va_rf v), rfl, hq, by rw [ht]; exact hP⟩, hS.F ht⟩) hS.2.2 hd
end EW
end
