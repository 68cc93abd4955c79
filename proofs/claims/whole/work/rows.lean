section
-- ===== PART A: goes FIRST, ahead of the names: the tables' words, and 'selects' of the private methods out of them =====
/-- a private method of a class that the tables say can be made, by its rows of tables_1 -/
def lw_okq (q : MethodName × Nat) : Prop := (q.1.cls ≠ "java/lang/invoke/MethodHandle" ∧ q.1.cls ≠ "java/lang/invoke/VarHandle") ∧ Cond.instantiable q.1.cls q.2 ∈ tables_1 ∧ Cond.privateMethod q.1 ∈ tables_1 ∧ Cond.instanceMethod q.1 ∈ tables_1
theorem lw_p0 : lw_okq (⟨"TalliedWindows$Reader", "takeFirstSign", "(I)I"⟩, 6) := ⟨⟨by decide +kernel, by decide +kernel⟩, List.mem_of_getElem? (i := 218) (by decide +kernel), List.mem_of_getElem? (i := 260) (by decide +kernel), List.mem_of_getElem? (i := 261) (by decide +kernel)⟩
theorem lw_p1 : lw_okq (⟨"TalliedWindows$Reader", "takeSecondSign", "(I)I"⟩, 6) := ⟨⟨by decide +kernel, by decide +kernel⟩, List.mem_of_getElem? (i := 218) (by decide +kernel), List.mem_of_getElem? (i := 264) (by decide +kernel), List.mem_of_getElem? (i := 265) (by decide +kernel)⟩
theorem lw_p2 : lw_okq (⟨"TalliedWindows$Window", "countRow", "(LTalliedWindows$Picture;LTalliedWindows$Filter;III)V"⟩, 3) := ⟨⟨by decide +kernel, by decide +kernel⟩, List.mem_of_getElem? (i := 147) (by decide +kernel), List.mem_of_getElem? (i := 435) (by decide +kernel), List.mem_of_getElem? (i := 436) (by decide +kernel)⟩
theorem lw_p3 : lw_okq (⟨"TalliedWindows$Window", "count", "(II)V"⟩, 3) := ⟨⟨by decide +kernel, by decide +kernel⟩, List.mem_of_getElem? (i := 147) (by decide +kernel), List.mem_of_getElem? (i := 439) (by decide +kernel), List.mem_of_getElem? (i := 440) (by decide +kernel)⟩
theorem lw_p4 : lw_okq (⟨"TalliedWindows", "lastOf", "(LTalliedWindows$Filter;II)I"⟩, 10) := ⟨⟨by decide +kernel, by decide +kernel⟩, List.mem_of_getElem? (i := 15) (by decide +kernel), List.mem_of_getElem? (i := 462) (by decide +kernel), List.mem_of_getElem? (i := 463) (by decide +kernel)⟩
theorem lw_p5 : lw_okq (⟨"TalliedWindows", "apply", "(LTalliedWindows$Filter;)I"⟩, 10) := ⟨⟨by decide +kernel, by decide +kernel⟩, List.mem_of_getElem? (i := 15) (by decide +kernel), List.mem_of_getElem? (i := 504) (by decide +kernel), List.mem_of_getElem? (i := 505) (by decide +kernel)⟩
theorem lw_p6 : lw_okq (⟨"TalliedWindows$State", "draw", "(I)I"⟩, 4) := ⟨⟨by decide +kernel, by decide +kernel⟩, List.mem_of_getElem? (i := 41) (by decide +kernel), List.mem_of_getElem? (i := 528) (by decide +kernel), List.mem_of_getElem? (i := 529) (by decide +kernel)⟩
theorem lw_p7 : lw_okq (⟨"TalliedWindowsModel", "readText", "()I"⟩, 23) := ⟨⟨by decide +kernel, by decide +kernel⟩, List.mem_of_getElem? (i := 592) (by decide +kernel), List.mem_of_getElem? (i := 682) (by decide +kernel), List.mem_of_getElem? (i := 683) (by decide +kernel)⟩
theorem lw_p8 : lw_okq (⟨"TalliedWindowsModel", "faultOf", "(I)I"⟩, 23) := ⟨⟨by decide +kernel, by decide +kernel⟩, List.mem_of_getElem? (i := 592) (by decide +kernel), List.mem_of_getElem? (i := 686) (by decide +kernel), List.mem_of_getElem? (i := 687) (by decide +kernel)⟩
theorem lw_p9 : lw_okq (⟨"TalliedWindowsModel", "faultOfBreak", "()I"⟩, 23) := ⟨⟨by decide +kernel, by decide +kernel⟩, List.mem_of_getElem? (i := 592) (by decide +kernel), List.mem_of_getElem? (i := 690) (by decide +kernel), List.mem_of_getElem? (i := 691) (by decide +kernel)⟩
theorem lw_p10 : lw_okq (⟨"TalliedWindowsModel", "isShort", "()Z"⟩, 23) := ⟨⟨by decide +kernel, by decide +kernel⟩, List.mem_of_getElem? (i := 592) (by decide +kernel), List.mem_of_getElem? (i := 694) (by decide +kernel), List.mem_of_getElem? (i := 695) (by decide +kernel)⟩
theorem lw_p11 : lw_okq (⟨"TalliedWindowsModel", "goOn", "(I)V"⟩, 23) := ⟨⟨by decide +kernel, by decide +kernel⟩, List.mem_of_getElem? (i := 592) (by decide +kernel), List.mem_of_getElem? (i := 705) (by decide +kernel), List.mem_of_getElem? (i := 706) (by decide +kernel)⟩
theorem lw_p12 : lw_okq (⟨"TalliedWindowsModel", "remember", "()V"⟩, 23) := ⟨⟨by decide +kernel, by decide +kernel⟩, List.mem_of_getElem? (i := 592) (by decide +kernel), List.mem_of_getElem? (i := 709) (by decide +kernel), List.mem_of_getElem? (i := 710) (by decide +kernel)⟩
theorem lw_p13 : lw_okq (⟨"TalliedWindowsModel", "copyRow", "(II)V"⟩, 23) := ⟨⟨by decide +kernel, by decide +kernel⟩, List.mem_of_getElem? (i := 592) (by decide +kernel), List.mem_of_getElem? (i := 713) (by decide +kernel), List.mem_of_getElem? (i := 714) (by decide +kernel)⟩
theorem lw_p14 : lw_okq (⟨"TalliedWindowsModel", "layPicture", "()V"⟩, 23) := ⟨⟨by decide +kernel, by decide +kernel⟩, List.mem_of_getElem? (i := 592) (by decide +kernel), List.mem_of_getElem? (i := 717) (by decide +kernel), List.mem_of_getElem? (i := 718) (by decide +kernel)⟩
theorem lw_p15 : lw_okq (⟨"TalliedWindowsModel", "place", "(II)I"⟩, 23) := ⟨⟨by decide +kernel, by decide +kernel⟩, List.mem_of_getElem? (i := 592) (by decide +kernel), List.mem_of_getElem? (i := 721) (by decide +kernel), List.mem_of_getElem? (i := 722) (by decide +kernel)⟩
def lw_privs_1 : List (MethodName × Nat) := [(⟨"TalliedWindows$Reader", "takeFirstSign", "(I)I"⟩, 6), (⟨"TalliedWindows$Reader", "takeSecondSign", "(I)I"⟩, 6), (⟨"TalliedWindows$Window", "countRow", "(LTalliedWindows$Picture;LTalliedWindows$Filter;III)V"⟩, 3), (⟨"TalliedWindows$Window", "count", "(II)V"⟩, 3), (⟨"TalliedWindows", "lastOf", "(LTalliedWindows$Filter;II)I"⟩, 10), (⟨"TalliedWindows", "apply", "(LTalliedWindows$Filter;)I"⟩, 10), (⟨"TalliedWindows$State", "draw", "(I)I"⟩, 4), (⟨"TalliedWindowsModel", "readText", "()I"⟩, 23), (⟨"TalliedWindowsModel", "faultOf", "(I)I"⟩, 23), (⟨"TalliedWindowsModel", "faultOfBreak", "()I"⟩, 23), (⟨"TalliedWindowsModel", "isShort", "()Z"⟩, 23), (⟨"TalliedWindowsModel", "goOn", "(I)V"⟩, 23), (⟨"TalliedWindowsModel", "remember", "()V"⟩, 23), (⟨"TalliedWindowsModel", "copyRow", "(II)V"⟩, 23), (⟨"TalliedWindowsModel", "layPicture", "()V"⟩, 23), (⟨"TalliedWindowsModel", "place", "(II)I"⟩, 23)]
theorem lw_r1 : ∀ q ∈ lw_privs_1, lw_okq q := List.forall_mem_cons.mpr ⟨lw_p0, List.forall_mem_cons.mpr ⟨lw_p1, List.forall_mem_cons.mpr ⟨lw_p2, List.forall_mem_cons.mpr ⟨lw_p3, List.forall_mem_cons.mpr ⟨lw_p4, List.forall_mem_cons.mpr ⟨lw_p5, List.forall_mem_cons.mpr ⟨lw_p6, List.forall_mem_cons.mpr ⟨lw_p7, List.forall_mem_cons.mpr ⟨lw_p8, List.forall_mem_cons.mpr ⟨lw_p9, List.forall_mem_cons.mpr ⟨lw_p10, List.forall_mem_cons.mpr ⟨lw_p11, List.forall_mem_cons.mpr ⟨lw_p12, List.forall_mem_cons.mpr ⟨lw_p13, List.forall_mem_cons.mpr ⟨lw_p14, List.forall_mem_cons.mpr ⟨lw_p15, fun _ h => absurd h List.not_mem_nil⟩⟩⟩⟩⟩⟩⟩⟩⟩⟩⟩⟩⟩⟩⟩⟩
theorem lw_p16 : lw_okq (⟨"TalliedWindowsModel", "masked", "()I"⟩, 23) := ⟨⟨by decide +kernel, by decide +kernel⟩, List.mem_of_getElem? (i := 592) (by decide +kernel), List.mem_of_getElem? (i := 733) (by decide +kernel), List.mem_of_getElem? (i := 734) (by decide +kernel)⟩
theorem lw_p17 : lw_okq (⟨"TalliedWindowsModel", "isMasked", "(II)Z"⟩, 23) := ⟨⟨by decide +kernel, by decide +kernel⟩, List.mem_of_getElem? (i := 592) (by decide +kernel), List.mem_of_getElem? (i := 737) (by decide +kernel), List.mem_of_getElem? (i := 738) (by decide +kernel)⟩
theorem lw_p18 : lw_okq (⟨"TalliedWindowsModel", "ofGreys", "(I)I"⟩, 23) := ⟨⟨by decide +kernel, by decide +kernel⟩, List.mem_of_getElem? (i := 592) (by decide +kernel), List.mem_of_getElem? (i := 741) (by decide +kernel), List.mem_of_getElem? (i := 742) (by decide +kernel)⟩
theorem lw_p19 : lw_okq (⟨"TalliedWindowsModel", "grey", "(II)I"⟩, 23) := ⟨⟨by decide +kernel, by decide +kernel⟩, List.mem_of_getElem? (i := 592) (by decide +kernel), List.mem_of_getElem? (i := 745) (by decide +kernel), List.mem_of_getElem? (i := 746) (by decide +kernel)⟩
theorem lw_p20 : lw_okq (⟨"TalliedWindowsModel", "wrong", "()I"⟩, 23) := ⟨⟨by decide +kernel, by decide +kernel⟩, List.mem_of_getElem? (i := 592) (by decide +kernel), List.mem_of_getElem? (i := 749) (by decide +kernel), List.mem_of_getElem? (i := 750) (by decide +kernel)⟩
theorem lw_p21 : lw_okq (⟨"TalliedWindowsModel", "isDot", "(II)Z"⟩, 23) := ⟨⟨by decide +kernel, by decide +kernel⟩, List.mem_of_getElem? (i := 592) (by decide +kernel), List.mem_of_getElem? (i := 753) (by decide +kernel), List.mem_of_getElem? (i := 754) (by decide +kernel)⟩
theorem lw_p22 : lw_okq (⟨"TalliedWindowsModel", "isFilter", "(I)Z"⟩, 23) := ⟨⟨by decide +kernel, by decide +kernel⟩, List.mem_of_getElem? (i := 592) (by decide +kernel), List.mem_of_getElem? (i := 779) (by decide +kernel), List.mem_of_getElem? (i := 780) (by decide +kernel)⟩
theorem lw_p23 : lw_okq (⟨"TalliedWindowsModel", "lastOf", "(III)I"⟩, 23) := ⟨⟨by decide +kernel, by decide +kernel⟩, List.mem_of_getElem? (i := 592) (by decide +kernel), List.mem_of_getElem? (i := 791) (by decide +kernel), List.mem_of_getElem? (i := 792) (by decide +kernel)⟩
theorem lw_p24 : lw_okq (⟨"TalliedWindowsModel", "layWindow", "(III)V"⟩, 23) := ⟨⟨by decide +kernel, by decide +kernel⟩, List.mem_of_getElem? (i := 592) (by decide +kernel), List.mem_of_getElem? (i := 795) (by decide +kernel), List.mem_of_getElem? (i := 796) (by decide +kernel)⟩
theorem lw_p25 : lw_okq (⟨"TalliedWindowsModel", "part", "(II)I"⟩, 23) := ⟨⟨by decide +kernel, by decide +kernel⟩, List.mem_of_getElem? (i := 592) (by decide +kernel), List.mem_of_getElem? (i := 799) (by decide +kernel), List.mem_of_getElem? (i := 800) (by decide +kernel)⟩
theorem lw_p26 : lw_okq (⟨"TalliedWindowsModel", "countAt", "(IIIZ)V"⟩, 23) := ⟨⟨by decide +kernel, by decide +kernel⟩, List.mem_of_getElem? (i := 592) (by decide +kernel), List.mem_of_getElem? (i := 803) (by decide +kernel), List.mem_of_getElem? (i := 804) (by decide +kernel)⟩
theorem lw_p27 : lw_okq (⟨"TalliedWindowsModel", "countOut", "(III)V"⟩, 23) := ⟨⟨by decide +kernel, by decide +kernel⟩, List.mem_of_getElem? (i := 592) (by decide +kernel), List.mem_of_getElem? (i := 807) (by decide +kernel), List.mem_of_getElem? (i := 808) (by decide +kernel)⟩
theorem lw_p28 : lw_okq (⟨"TalliedWindowsModel", "count", "(I)V"⟩, 23) := ⟨⟨by decide +kernel, by decide +kernel⟩, List.mem_of_getElem? (i := 592) (by decide +kernel), List.mem_of_getElem? (i := 811) (by decide +kernel), List.mem_of_getElem? (i := 812) (by decide +kernel)⟩
theorem lw_p29 : lw_okq (⟨"TalliedWindowsModel", "below", "(I)I"⟩, 23) := ⟨⟨by decide +kernel, by decide +kernel⟩, List.mem_of_getElem? (i := 592) (by decide +kernel), List.mem_of_getElem? (i := 821) (by decide +kernel), List.mem_of_getElem? (i := 822) (by decide +kernel)⟩
theorem lw_p30 : lw_okq (⟨"TalliedWindowsModel", "setGrey", "(III)V"⟩, 23) := ⟨⟨by decide +kernel, by decide +kernel⟩, List.mem_of_getElem? (i := 592) (by decide +kernel), List.mem_of_getElem? (i := 837) (by decide +kernel), List.mem_of_getElem? (i := 838) (by decide +kernel)⟩
theorem lw_p31 : lw_okq (⟨"TalliedWindowsModel", "turnedFrom", "(III)I"⟩, 23) := ⟨⟨by decide +kernel, by decide +kernel⟩, List.mem_of_getElem? (i := 592) (by decide +kernel), List.mem_of_getElem? (i := 851) (by decide +kernel), List.mem_of_getElem? (i := 852) (by decide +kernel)⟩
def lw_privs_2 : List (MethodName × Nat) := [(⟨"TalliedWindowsModel", "masked", "()I"⟩, 23), (⟨"TalliedWindowsModel", "isMasked", "(II)Z"⟩, 23), (⟨"TalliedWindowsModel", "ofGreys", "(I)I"⟩, 23), (⟨"TalliedWindowsModel", "grey", "(II)I"⟩, 23), (⟨"TalliedWindowsModel", "wrong", "()I"⟩, 23), (⟨"TalliedWindowsModel", "isDot", "(II)Z"⟩, 23), (⟨"TalliedWindowsModel", "isFilter", "(I)Z"⟩, 23), (⟨"TalliedWindowsModel", "lastOf", "(III)I"⟩, 23), (⟨"TalliedWindowsModel", "layWindow", "(III)V"⟩, 23), (⟨"TalliedWindowsModel", "part", "(II)I"⟩, 23), (⟨"TalliedWindowsModel", "countAt", "(IIIZ)V"⟩, 23), (⟨"TalliedWindowsModel", "countOut", "(III)V"⟩, 23), (⟨"TalliedWindowsModel", "count", "(I)V"⟩, 23), (⟨"TalliedWindowsModel", "below", "(I)I"⟩, 23), (⟨"TalliedWindowsModel", "setGrey", "(III)V"⟩, 23), (⟨"TalliedWindowsModel", "turnedFrom", "(III)I"⟩, 23)]
theorem lw_r2 : ∀ q ∈ lw_privs_2, lw_okq q := List.forall_mem_cons.mpr ⟨lw_p16, List.forall_mem_cons.mpr ⟨lw_p17, List.forall_mem_cons.mpr ⟨lw_p18, List.forall_mem_cons.mpr ⟨lw_p19, List.forall_mem_cons.mpr ⟨lw_p20, List.forall_mem_cons.mpr ⟨lw_p21, List.forall_mem_cons.mpr ⟨lw_p22, List.forall_mem_cons.mpr ⟨lw_p23, List.forall_mem_cons.mpr ⟨lw_p24, List.forall_mem_cons.mpr ⟨lw_p25, List.forall_mem_cons.mpr ⟨lw_p26, List.forall_mem_cons.mpr ⟨lw_p27, List.forall_mem_cons.mpr ⟨lw_p28, List.forall_mem_cons.mpr ⟨lw_p29, List.forall_mem_cons.mpr ⟨lw_p30, List.forall_mem_cons.mpr ⟨lw_p31, fun _ h => absurd h List.not_mem_nil⟩⟩⟩⟩⟩⟩⟩⟩⟩⟩⟩⟩⟩⟩⟩⟩
theorem lw_p32 : lw_okq (⟨"TalliedWindowsModel", "applyNow", "(I)I"⟩, 23) := ⟨⟨by decide +kernel, by decide +kernel⟩, List.mem_of_getElem? (i := 592) (by decide +kernel), List.mem_of_getElem? (i := 859) (by decide +kernel), List.mem_of_getElem? (i := 860) (by decide +kernel)⟩
theorem lw_p33 : lw_okq (⟨"TalliedWindowsModel", "draw", "(I)I"⟩, 23) := ⟨⟨by decide +kernel, by decide +kernel⟩, List.mem_of_getElem? (i := 592) (by decide +kernel), List.mem_of_getElem? (i := 877) (by decide +kernel), List.mem_of_getElem? (i := 878) (by decide +kernel)⟩
theorem lw_p34 : lw_okq (⟨"TalliedWindowsModel", "isKept", "(I)Z"⟩, 23) := ⟨⟨by decide +kernel, by decide +kernel⟩, List.mem_of_getElem? (i := 592) (by decide +kernel), List.mem_of_getElem? (i := 910) (by decide +kernel), List.mem_of_getElem? (i := 911) (by decide +kernel)⟩
def lw_privs_3 : List (MethodName × Nat) := [(⟨"TalliedWindowsModel", "applyNow", "(I)I"⟩, 23), (⟨"TalliedWindowsModel", "draw", "(I)I"⟩, 23), (⟨"TalliedWindowsModel", "isKept", "(I)Z"⟩, 23)]
theorem lw_r3 : ∀ q ∈ lw_privs_3, lw_okq q := List.forall_mem_cons.mpr ⟨lw_p32, List.forall_mem_cons.mpr ⟨lw_p33, List.forall_mem_cons.mpr ⟨lw_p34, fun _ h => absurd h List.not_mem_nil⟩⟩⟩
def lw_privs : List (MethodName × Nat) := lw_privs_1 ++ (lw_privs_2 ++ (lw_privs_3))
def lw_tbl : List Cond := k2_sels lw_privs ++ tables_1
theorem lw_privs_ok : ∀ q ∈ lw_privs, lw_okq q := by
  show ∀ q ∈ lw_privs_1 ++ (lw_privs_2 ++ (lw_privs_3)), lw_okq q
  exact List.forall_mem_append.mpr ⟨lw_r1, List.forall_mem_append.mpr ⟨lw_r2, lw_r3⟩⟩
end
section
def RX0 : String := "TalliedWindows$Book"
def TX0 : u_T := fun k => match k with
  | 0 => ("TalliedWindows$Book", "count", "I", false)
  | 1 => ("TalliedWindows$Book", "xs", "[I", true)
  | 2 => ("TalliedWindows$Book", "ys", "[I", true)
  | _ => ("TalliedWindows$Book", "greys", "[I", true)
def tyX0 : Nat → FieldType := fun k => match k with
  | 0 => .int
  | 1 => .array .int
  | 2 => .array .int
  | _ => .array .int
abbrev wsX00 : List Cond := u_ws RX0 TX0 4
theorem nmX0 : ∀ a, a < 4 → ∀ b, b < 4 → a ≠ b → (TX0 a).2.1 ≠ (TX0 b).2.1 := by decide +kernel
theorem tyX0_ok : ∀ k, k < 4 → parseFieldDescriptor (TX0 k).2.2.1 = some (tyX0 k) := by decide +kernel
abbrev cX0_init : ByteArray := prog_2_method_1_code
def yX0_init : MethodName := ⟨RX0, "<init>", "()V"⟩
abbrev cX0_add : ByteArray := prog_2_method_2_code
def yX0_add : MethodName := ⟨RX0, "add", "(III)I"⟩
abbrev cX0_firstWrong : ByteArray := prog_2_method_3_code
def yX0_firstWrong : MethodName := ⟨RX0, "firstWrong", "(LTalliedWindows$Picture;)I"⟩
def RX1 : String := "TalliedWindows$Filter"
def TX1 : u_T := fun k => match k with
  | 0 => ("TalliedWindows$Filter", "across", "I", true)
  | 1 => ("TalliedWindows$Filter", "down", "I", true)
  | 2 => ("TalliedWindows$Filter", "rank", "I", true)
  | 3 => ("TalliedWindows$Filter", "border", "I", true)
  | _ => ("TalliedWindows$Filter", "weight", "I", true)
def tyX1 : Nat → FieldType := fun k => match k with
  | 0 => .int
  | 1 => .int
  | 2 => .int
  | 3 => .int
  | _ => .int
abbrev wsX10 : List Cond := u_ws RX1 TX1 5
theorem nmX1 : ∀ a, a < 5 → ∀ b, b < 5 → a ≠ b → (TX1 a).2.1 ≠ (TX1 b).2.1 := by decide +kernel
theorem tyX1_ok : ∀ k, k < 5 → parseFieldDescriptor (TX1 k).2.2.1 = some (tyX1 k) := by decide +kernel
abbrev cX1_init : ByteArray := prog_3_method_1_code
def yX1_init : MethodName := ⟨RX1, "<init>", "(IIIII)V"⟩
def RX2 : String := "TalliedWindows$Filters"
def TX2 : u_T := fun k => match k with
  | 0 => ("TalliedWindows$Filters", "count", "I", false)
  | _ => ("TalliedWindows$Filters", "inOrder", "[LTalliedWindows$Filter;", true)
def tyX2 : Nat → FieldType := fun k => match k with
  | 0 => .int
  | _ => .array (.object "TalliedWindows$Filter")
abbrev wsX20 : List Cond := u_ws RX2 TX2 2
theorem nmX2 : ∀ a, a < 2 → ∀ b, b < 2 → a ≠ b → (TX2 a).2.1 ≠ (TX2 b).2.1 := by decide +kernel
theorem tyX2_ok : ∀ k, k < 2 → parseFieldDescriptor (TX2 k).2.2.1 = some (tyX2 k) := by decide +kernel
abbrev cX2_init : ByteArray := prog_4_method_1_code
def yX2_init : MethodName := ⟨RX2, "<init>", "()V"⟩
abbrev cX2_isFull : ByteArray := prog_4_method_2_code
def yX2_isFull : MethodName := ⟨RX2, "isFull", "()Z"⟩
abbrev cX2_numbered : ByteArray := prog_4_method_3_code
def yX2_numbered : MethodName := ⟨RX2, "numbered", "(I)LTalliedWindows$Filter;"⟩
abbrev cX2_add : ByteArray := prog_4_method_4_code
def yX2_add : MethodName := ⟨RX2, "add", "(LTalliedWindows$Filter;)I"⟩
abbrev cX2_remove : ByteArray := prog_4_method_5_code
def yX2_remove : MethodName := ⟨RX2, "remove", "(I)I"⟩
abbrev cX2_become : ByteArray := prog_4_method_6_code
def yX2_become : MethodName := ⟨RX2, "become", "(LTalliedWindows$Filters;)V"⟩
def RX3 : String := "TalliedWindows$History"
def TX3 : u_T := fun k => match k with
  | 0 => ("TalliedWindows$History", "count", "I", false)
  | 1 => ("TalliedWindows$History", "oldest", "I", false)
  | _ => ("TalliedWindows$History", "ring", "[LTalliedWindows$Picture;", true)
def tyX3 : Nat → FieldType := fun k => match k with
  | 0 => .int
  | 1 => .int
  | _ => .array (.object "TalliedWindows$Picture")
abbrev wsX30 : List Cond := u_ws RX3 TX3 3
theorem nmX3 : ∀ a, a < 3 → ∀ b, b < 3 → a ≠ b → (TX3 a).2.1 ≠ (TX3 b).2.1 := by decide +kernel
theorem tyX3_ok : ∀ k, k < 3 → parseFieldDescriptor (TX3 k).2.2.1 = some (tyX3 k) := by decide +kernel
abbrev cX3_init : ByteArray := prog_5_method_1_code
def yX3_init : MethodName := ⟨RX3, "<init>", "()V"⟩
abbrev cX3_remember : ByteArray := prog_5_method_2_code
def yX3_remember : MethodName := ⟨RX3, "remember", "(LTalliedWindows$Picture;)V"⟩
abbrev cX3_takeBack : ByteArray := prog_5_method_3_code
def yX3_takeBack : MethodName := ⟨RX3, "takeBack", "(ILTalliedWindows$Picture;)V"⟩
abbrev cX3_forget : ByteArray := prog_5_method_4_code
def yX3_forget : MethodName := ⟨RX3, "forget", "()V"⟩
def RX4 : String := "TalliedWindows$Picture"
def TX4 : u_T := fun k => match k with
  | 0 => ("TalliedWindows$Picture", "width", "I", false)
  | 1 => ("TalliedWindows$Picture", "height", "I", false)
  | 2 => ("TalliedWindows$Picture", "greys", "[I", true)
  | _ => ("TalliedWindows$Picture", "masks", "[Z", true)
def tyX4 : Nat → FieldType := fun k => match k with
  | 0 => .int
  | 1 => .int
  | 2 => .array .int
  | _ => .array .boolean
abbrev wsX40 : List Cond := u_ws RX4 TX4 4
theorem nmX4 : ∀ a, a < 4 → ∀ b, b < 4 → a ≠ b → (TX4 a).2.1 ≠ (TX4 b).2.1 := by decide +kernel
theorem tyX4_ok : ∀ k, k < 4 → parseFieldDescriptor (TX4 k).2.2.1 = some (tyX4 k) := by decide +kernel
abbrev cX4_init : ByteArray := prog_6_method_1_code
def yX4_init : MethodName := ⟨RX4, "<init>", "()V"⟩
abbrev cX4_dots : ByteArray := prog_6_method_2_code
def yX4_dots : MethodName := ⟨RX4, "dots", "()I"⟩
abbrev cX4_has : ByteArray := prog_6_method_3_code
def yX4_has : MethodName := ⟨RX4, "has", "(II)Z"⟩
abbrev cX4_greyOf : ByteArray := prog_6_method_4_code
def yX4_greyOf : MethodName := ⟨RX4, "greyOf", "(II)I"⟩
abbrev cX4_isMasked : ByteArray := prog_6_method_5_code
def yX4_isMasked : MethodName := ⟨RX4, "isMasked", "(II)Z"⟩
abbrev cX4_setGrey : ByteArray := prog_6_method_6_code
def yX4_setGrey : MethodName := ⟨RX4, "setGrey", "(III)V"⟩
abbrev cX4_setMasked : ByteArray := prog_6_method_7_code
def yX4_setMasked : MethodName := ⟨RX4, "setMasked", "(IIZ)V"⟩
abbrev cX4_setInOrder : ByteArray := prog_6_method_8_code
def yX4_setInOrder : MethodName := ⟨RX4, "setInOrder", "(IIZ)V"⟩
abbrev cX4_setSize : ByteArray := prog_6_method_9_code
def yX4_setSize : MethodName := ⟨RX4, "setSize", "(II)V"⟩
abbrev cX4_become : ByteArray := prog_6_method_10_code
def yX4_become : MethodName := ⟨RX4, "become", "(LTalliedWindows$Picture;)V"⟩
abbrev cX4_becomeTurned : ByteArray := prog_6_method_11_code
def yX4_becomeTurned : MethodName := ⟨RX4, "becomeTurned", "(LTalliedWindows$Picture;I)V"⟩
abbrev cX4_maskedDots : ByteArray := prog_6_method_12_code
def yX4_maskedDots : MethodName := ⟨RX4, "maskedDots", "()I"⟩
abbrev cX4_leastGrey : ByteArray := prog_6_method_13_code
def yX4_leastGrey : MethodName := ⟨RX4, "leastGrey", "()I"⟩
abbrev cX4_greatestGrey : ByteArray := prog_6_method_14_code
def yX4_greatestGrey : MethodName := ⟨RX4, "greatestGrey", "()I"⟩
abbrev cX4_greysTogether : ByteArray := prog_6_method_15_code
def yX4_greysTogether : MethodName := ⟨RX4, "greysTogether", "()I"⟩
abbrev cX4_dotsUpTo : ByteArray := prog_6_method_16_code
def yX4_dotsUpTo : MethodName := ⟨RX4, "dotsUpTo", "(IIIII)I"⟩
abbrev cX4_greysOtherThan : ByteArray := prog_6_method_17_code
def yX4_greysOtherThan : MethodName := ⟨RX4, "greysOtherThan", "(LTalliedWindows$Picture;)I"⟩
abbrev cX4_dotsOtherThan : ByteArray := prog_6_method_18_code
def yX4_dotsOtherThan : MethodName := ⟨RX4, "dotsOtherThan", "(LTalliedWindows$Picture;)I"⟩
def RX5 : String := "TalliedWindows$Reader"
def TX5 : u_T := fun k => match k with
  | 0 => ("TalliedWindows$Reader", "into", "LTalliedWindows$Picture;", true)
  | 1 => ("TalliedWindows$Reader", "dotsRead", "I", false)
  | 2 => ("TalliedWindows$Reader", "width", "I", false)
  | 3 => ("TalliedWindows$Reader", "row", "I", false)
  | 4 => ("TalliedWindows$Reader", "column", "I", false)
  | _ => ("TalliedWindows$Reader", "firstSign", "I", false)
def tyX5 : Nat → FieldType := fun k => match k with
  | 0 => .object "TalliedWindows$Picture"
  | 1 => .int
  | 2 => .int
  | 3 => .int
  | 4 => .int
  | _ => .int
abbrev wsX50 : List Cond := u_ws RX5 TX5 6
theorem nmX5 : ∀ a, a < 6 → ∀ b, b < 6 → a ≠ b → (TX5 a).2.1 ≠ (TX5 b).2.1 := by decide +kernel
theorem tyX5_ok : ∀ k, k < 6 → parseFieldDescriptor (TX5 k).2.2.1 = some (tyX5 k) := by decide +kernel
abbrev cX5_init : ByteArray := prog_7_method_1_code
def yX5_init : MethodName := ⟨RX5, "<init>", "(LTalliedWindows$Picture;)V"⟩
abbrev cX5_take : ByteArray := prog_7_method_2_code
def yX5_take : MethodName := ⟨RX5, "take", "(I)I"⟩
abbrev cX5_takeRowEnd : ByteArray := prog_7_method_3_code
def yX5_takeRowEnd : MethodName := ⟨RX5, "takeRowEnd", "(Z)I"⟩
abbrev cX5_takeFirstSign : ByteArray := prog_7_method_4_code
def yX5_takeFirstSign : MethodName := ⟨RX5, "takeFirstSign", "(I)I"⟩
abbrev cX5_takeSecondSign : ByteArray := prog_7_method_5_code
def yX5_takeSecondSign : MethodName := ⟨RX5, "takeSecondSign", "(I)I"⟩
abbrev cX5_signOf : ByteArray := prog_7_method_6_code
def yX5_signOf : MethodName := ⟨RX5, "signOf", "(I)I"⟩
def RX6 : String := "TalliedWindows$State"
def TX6 : u_T := fun k => match k with
  | 0 => ("TalliedWindows$State", "picture", "LTalliedWindows$Picture;", true)
  | 1 => ("TalliedWindows$State", "filters", "LTalliedWindows$Filters;", true)
  | 2 => ("TalliedWindows$State", "fillGrey", "I", false)
  | _ => ("TalliedWindows$State", "seed", "I", false)
def tyX6 : Nat → FieldType := fun k => match k with
  | 0 => .object "TalliedWindows$Picture"
  | 1 => .object "TalliedWindows$Filters"
  | 2 => .int
  | _ => .int
abbrev wsX60 : List Cond := u_ws RX6 TX6 4
theorem nmX6 : ∀ a, a < 4 → ∀ b, b < 4 → a ≠ b → (TX6 a).2.1 ≠ (TX6 b).2.1 := by decide +kernel
theorem tyX6_ok : ∀ k, k < 4 → parseFieldDescriptor (TX6 k).2.2.1 = some (tyX6 k) := by decide +kernel
abbrev cX6_init : ByteArray := prog_8_method_1_code
def yX6_init : MethodName := ⟨RX6, "<init>", "()V"⟩
abbrev cX6_become : ByteArray := prog_8_method_2_code
def yX6_become : MethodName := ⟨RX6, "become", "(LTalliedWindows$State;)V"⟩
abbrev cX6_speckle : ByteArray := prog_8_method_3_code
def yX6_speckle : MethodName := ⟨RX6, "speckle", "()V"⟩
abbrev cX6_draw : ByteArray := prog_8_method_4_code
def yX6_draw : MethodName := ⟨RX6, "draw", "(I)I"⟩
def RX7 : String := "TalliedWindows$Text"
def TX7 : u_T := fun k => match k with
  | 0 => ("TalliedWindows$Text", "length", "I", false)
  | 1 => ("TalliedWindows$Text", "letters", "[I", true)
  | _ => ("TalliedWindows$Text", "place", "I", false)
def tyX7 : Nat → FieldType := fun k => match k with
  | 0 => .int
  | 1 => .array .int
  | _ => .int
abbrev wsX70 : List Cond := u_ws RX7 TX7 3
theorem nmX7 : ∀ a, a < 3 → ∀ b, b < 3 → a ≠ b → (TX7 a).2.1 ≠ (TX7 b).2.1 := by decide +kernel
theorem tyX7_ok : ∀ k, k < 3 → parseFieldDescriptor (TX7 k).2.2.1 = some (tyX7 k) := by decide +kernel
abbrev cX7_init : ByteArray := prog_9_method_1_code
def yX7_init : MethodName := ⟨RX7, "<init>", "()V"⟩
abbrev cX7_append : ByteArray := prog_9_method_2_code
def yX7_append : MethodName := ⟨RX7, "append", "(I)I"⟩
abbrev cX7_clear : ByteArray := prog_9_method_3_code
def yX7_clear : MethodName := ⟨RX7, "clear", "()V"⟩
abbrev cX7_placeRead : ByteArray := prog_9_method_4_code
def yX7_placeRead : MethodName := ⟨RX7, "placeRead", "()I"⟩
abbrev cX7_readInto : ByteArray := prog_9_method_5_code
def yX7_readInto : MethodName := ⟨RX7, "readInto", "(LTalliedWindows$Picture;)I"⟩
def RX8 : String := "TalliedWindows$Window"
def TX8 : u_T := fun k => match k with
  | 0 => ("TalliedWindows$Window", "counted", "I", false)
  | 1 => ("TalliedWindows$Window", "coarse", "[I", true)
  | _ => ("TalliedWindows$Window", "fine", "[I", true)
def tyX8 : Nat → FieldType := fun k => match k with
  | 0 => .int
  | 1 => .array .int
  | _ => .array .int
abbrev wsX80 : List Cond := u_ws RX8 TX8 3
theorem nmX8 : ∀ a, a < 3 → ∀ b, b < 3 → a ≠ b → (TX8 a).2.1 ≠ (TX8 b).2.1 := by decide +kernel
theorem tyX8_ok : ∀ k, k < 3 → parseFieldDescriptor (TX8 k).2.2.1 = some (tyX8 k) := by decide +kernel
abbrev cX8_init : ByteArray := prog_10_method_1_code
def yX8_init : MethodName := ⟨RX8, "<init>", "()V"⟩
abbrev cX8_lookAt : ByteArray := prog_10_method_2_code
def yX8_lookAt : MethodName := ⟨RX8, "lookAt", "(LTalliedWindows$Picture;LTalliedWindows$Filter;III)V"⟩
abbrev cX8_ranked : ByteArray := prog_10_method_3_code
def yX8_ranked : MethodName := ⟨RX8, "ranked", "(I)I"⟩
abbrev cX8_countedBelow : ByteArray := prog_10_method_4_code
def yX8_countedBelow : MethodName := ⟨RX8, "countedBelow", "(I)I"⟩
abbrev cX8_spread : ByteArray := prog_10_method_5_code
def yX8_spread : MethodName := ⟨RX8, "spread", "()I"⟩
abbrev cX8_countRow : ByteArray := prog_10_method_6_code
def yX8_countRow : MethodName := ⟨RX8, "countRow", "(LTalliedWindows$Picture;LTalliedWindows$Filter;III)V"⟩
abbrev cX8_count : ByteArray := prog_10_method_7_code
def yX8_count : MethodName := ⟨RX8, "count", "(II)V"⟩
abbrev cX8_standingFor : ByteArray := prog_10_method_8_code
def yX8_standingFor : MethodName := ⟨RX8, "standingFor", "(III)I"⟩
def RX9 : String := "TalliedWindows"
def TX9 : u_T := fun k => match k with
  | 0 => ("TalliedWindows", "text", "LTalliedWindows$Text;", true)
  | 1 => ("TalliedWindows", "now", "LTalliedWindows$State;", true)
  | 2 => ("TalliedWindows", "images", "[LTalliedWindows$State;", true)
  | 3 => ("TalliedWindows", "wasKept", "[Z", true)
  | 4 => ("TalliedWindows", "history", "LTalliedWindows$History;", true)
  | 5 => ("TalliedWindows", "book", "LTalliedWindows$Book;", true)
  | 6 => ("TalliedWindows", "window", "LTalliedWindows$Window;", true)
  | 7 => ("TalliedWindows", "spare", "LTalliedWindows$Picture;", true)
  | 8 => ("TalliedWindows", "ahead", "LTalliedWindows$Picture;", true)
  | _ => ("TalliedWindows", "faultPlace", "I", false)
def tyX9 : Nat → FieldType := fun k => match k with
  | 0 => .object "TalliedWindows$Text"
  | 1 => .object "TalliedWindows$State"
  | 2 => .array (.object "TalliedWindows$State")
  | 3 => .array .boolean
  | 4 => .object "TalliedWindows$History"
  | 5 => .object "TalliedWindows$Book"
  | 6 => .object "TalliedWindows$Window"
  | 7 => .object "TalliedWindows$Picture"
  | 8 => .object "TalliedWindows$Picture"
  | _ => .int
abbrev wsX90 : List Cond := u_ws RX9 TX9 10
theorem nmX9 : ∀ a, a < 10 → ∀ b, b < 10 → a ≠ b → (TX9 a).2.1 ≠ (TX9 b).2.1 := by decide +kernel
theorem tyX9_ok : ∀ k, k < 10 → parseFieldDescriptor (TX9 k).2.2.1 = some (tyX9 k) := by decide +kernel
abbrev cX9_init : ByteArray := prog_1_method_1_code
def yX9_init : MethodName := ⟨RX9, "<init>", "()V"⟩
abbrev cX9_feed : ByteArray := prog_1_method_2_code
def yX9_feed : MethodName := ⟨RX9, "feed", "(I)I"⟩
abbrev cX9_picture : ByteArray := prog_1_method_3_code
def yX9_picture : MethodName := ⟨RX9, "picture", "()I"⟩
abbrev cX9_fault : ByteArray := prog_1_method_4_code
def yX9_fault : MethodName := ⟨RX9, "fault", "()I"⟩
abbrev cX9_told : ByteArray := prog_1_method_5_code
def yX9_told : MethodName := ⟨RX9, "told", "(I)I"⟩
abbrev cX9_at : ByteArray := prog_1_method_6_code
def yX9_at : MethodName := ⟨RX9, "at", "(III)I"⟩
abbrev cX9_tally : ByteArray := prog_1_method_7_code
def yX9_tally : MethodName := ⟨RX9, "tally", "(IIIII)I"⟩
abbrev cX9_filter : ByteArray := prog_1_method_8_code
def yX9_filter : MethodName := ⟨RX9, "filter", "(IIIII)I"⟩
abbrev cX9_drop : ByteArray := prog_1_method_9_code
def yX9_drop : MethodName := ⟨RX9, "drop", "(I)I"⟩
abbrev cX9_fill : ByteArray := prog_1_method_10_code
def yX9_fill : MethodName := ⟨RX9, "fill", "(I)I"⟩
abbrev cX9_would : ByteArray := prog_1_method_11_code
def yX9_would : MethodName := ⟨RX9, "would", "(IIII)I"⟩
abbrev cX9_bins : ByteArray := prog_1_method_12_code
def yX9_bins : MethodName := ⟨RX9, "bins", "(I)I"⟩
abbrev cX9_spikes : ByteArray := prog_1_method_13_code
def yX9_spikes : MethodName := ⟨RX9, "spikes", "(II)I"⟩
abbrev cX9_dot : ByteArray := prog_1_method_14_code
def yX9_dot : MethodName := ⟨RX9, "dot", "(III)I"⟩
abbrev cX9_mask : ByteArray := prog_1_method_15_code
def yX9_mask : MethodName := ⟨RX9, "mask", "(IIZ)I"⟩
abbrev cX9_turn : ByteArray := prog_1_method_16_code
def yX9_turn : MethodName := ⟨RX9, "turn", "(I)I"⟩
abbrev cX9_filtered : ByteArray := prog_1_method_17_code
def yX9_filtered : MethodName := ⟨RX9, "filtered", "(I)I"⟩
abbrev cX9_all : ByteArray := prog_1_method_18_code
def yX9_all : MethodName := ⟨RX9, "all", "()I"⟩
abbrev cX9_until : ByteArray := prog_1_method_19_code
def yX9_until : MethodName := ⟨RX9, "until", "(II)I"⟩
abbrev cX9_noise : ByteArray := prog_1_method_20_code
def yX9_noise : MethodName := ⟨RX9, "noise", "(I)I"⟩
abbrev cX9_undo : ByteArray := prog_1_method_21_code
def yX9_undo : MethodName := ⟨RX9, "undo", "(I)I"⟩
abbrev cX9_write : ByteArray := prog_1_method_22_code
def yX9_write : MethodName := ⟨RX9, "write", "(III)I"⟩
abbrev cX9_tear : ByteArray := prog_1_method_23_code
def yX9_tear : MethodName := ⟨RX9, "tear", "()I"⟩
abbrev cX9_seed : ByteArray := prog_1_method_24_code
def yX9_seed : MethodName := ⟨RX9, "seed", "(I)I"⟩
abbrev cX9_keep : ByteArray := prog_1_method_25_code
def yX9_keep : MethodName := ⟨RX9, "keep", "(I)I"⟩
abbrev cX9_goBack : ByteArray := prog_1_method_26_code
def yX9_goBack : MethodName := ⟨RX9, "goBack", "(I)I"⟩
abbrev cX9_against : ByteArray := prog_1_method_27_code
def yX9_against : MethodName := ⟨RX9, "against", "(I)I"⟩
abbrev cX9_within : ByteArray := prog_1_method_28_code
def yX9_within : MethodName := ⟨RX9, "within", "(III)Z"⟩
abbrev cX9_lastOf : ByteArray := prog_1_method_29_code
def yX9_lastOf : MethodName := ⟨RX9, "lastOf", "(LTalliedWindows$Filter;II)I"⟩
abbrev cX9_apply : ByteArray := prog_1_method_30_code
def yX9_apply : MethodName := ⟨RX9, "apply", "(LTalliedWindows$Filter;)I"⟩
def RX10 : String := "TalliedWindowsModel"
def TX10 : u_T := fun k => match k with
  | 0 => ("TalliedWindowsModel", "w", "[I", true)
  | 1 => ("TalliedWindowsModel", "known", "I", false)
  | 2 => ("TalliedWindowsModel", "kept", "I", false)
  | 3 => ("TalliedWindowsModel", "seed", "I", false)
  | 4 => ("TalliedWindowsModel", "text", "[I", true)
  | 5 => ("TalliedWindowsModel", "size", "I", false)
  | 6 => ("TalliedWindowsModel", "faultAt", "I", false)
  | 7 => ("TalliedWindowsModel", "filters", "[I", true)
  | 8 => ("TalliedWindowsModel", "fill", "I", false)
  | 9 => ("TalliedWindowsModel", "imageFilters", "[I", true)
  | 10 => ("TalliedWindowsModel", "imageFill", "[I", true)
  | 11 => ("TalliedWindowsModel", "imageSeed", "[I", true)
  | 12 => ("TalliedWindowsModel", "bookX", "[I", true)
  | 13 => ("TalliedWindowsModel", "bookY", "[I", true)
  | 14 => ("TalliedWindowsModel", "bookIs", "[I", true)
  | 15 => ("TalliedWindowsModel", "written", "I", false)
  | 16 => ("TalliedWindowsModel", "rows", "I", false)
  | 17 => ("TalliedWindowsModel", "inRow", "I", false)
  | 18 => ("TalliedWindowsModel", "wide", "I", false)
  | 19 => ("TalliedWindowsModel", "half", "I", false)
  | 20 => ("TalliedWindowsModel", "counted", "[I", true)
  | 21 => ("TalliedWindowsModel", "many", "I", false)
  | _ => ("TalliedWindowsModel", "next", "[I", true)
def tyX10 : Nat → FieldType := fun k => match k with
  | 0 => .array .int
  | 1 => .int
  | 2 => .int
  | 3 => .int
  | 4 => .array .int
  | 5 => .int
  | 6 => .int
  | 7 => .array .int
  | 8 => .int
  | 9 => .array .int
  | 10 => .array .int
  | 11 => .array .int
  | 12 => .array .int
  | 13 => .array .int
  | 14 => .array .int
  | 15 => .int
  | 16 => .int
  | 17 => .int
  | 18 => .int
  | 19 => .int
  | 20 => .array .int
  | 21 => .int
  | _ => .array .int
abbrev wsX100 : List Cond := u_ws RX10 TX10 23
theorem nmX10 : ∀ a, a < 23 → ∀ b, b < 23 → a ≠ b → (TX10 a).2.1 ≠ (TX10 b).2.1 := by decide +kernel
theorem tyX10_ok : ∀ k, k < 23 → parseFieldDescriptor (TX10 k).2.2.1 = some (tyX10 k) := by decide +kernel
abbrev cX10_init : ByteArray := prog_12_method_1_code
def yX10_init : MethodName := ⟨RX10, "<init>", "()V"⟩
abbrev cX10_in : ByteArray := prog_12_method_2_code
def yX10_in : MethodName := ⟨RX10, "in", "(JJJ)Z"⟩
abbrev cX10_copyRow : ByteArray := prog_12_method_3_code
def yX10_copyRow : MethodName := ⟨RX10, "copyRow", "(II)V"⟩
abbrev cX10_remember : ByteArray := prog_12_method_4_code
def yX10_remember : MethodName := ⟨RX10, "remember", "()V"⟩
abbrev cX10_place : ByteArray := prog_12_method_5_code
def yX10_place : MethodName := ⟨RX10, "place", "(II)I"⟩
abbrev cX10_grey : ByteArray := prog_12_method_6_code
def yX10_grey : MethodName := ⟨RX10, "grey", "(II)I"⟩
abbrev cX10_isMasked : ByteArray := prog_12_method_7_code
def yX10_isMasked : MethodName := ⟨RX10, "isMasked", "(II)Z"⟩
abbrev cX10_isDot : ByteArray := prog_12_method_8_code
def yX10_isDot : MethodName := ⟨RX10, "isDot", "(II)Z"⟩
abbrev cX10_setGrey : ByteArray := prog_12_method_9_code
def yX10_setGrey : MethodName := ⟨RX10, "setGrey", "(III)V"⟩
abbrev cX10_figure : ByteArray := prog_12_method_10_code
def yX10_figure : MethodName := ⟨RX10, "figure", "(I)I"⟩
abbrev cX10_isShort : ByteArray := prog_12_method_11_code
def yX10_isShort : MethodName := ⟨RX10, "isShort", "()Z"⟩
abbrev cX10_faultOfBreak : ByteArray := prog_12_method_12_code
def yX10_faultOfBreak : MethodName := ⟨RX10, "faultOfBreak", "()I"⟩
abbrev cX10_faultOf : ByteArray := prog_12_method_13_code
def yX10_faultOf : MethodName := ⟨RX10, "faultOf", "(I)I"⟩
abbrev cX10_goOn : ByteArray := prog_12_method_14_code
def yX10_goOn : MethodName := ⟨RX10, "goOn", "(I)V"⟩
abbrev cX10_readText : ByteArray := prog_12_method_15_code
def yX10_readText : MethodName := ⟨RX10, "readText", "()I"⟩
abbrev cX10_layPicture : ByteArray := prog_12_method_16_code
def yX10_layPicture : MethodName := ⟨RX10, "layPicture", "()V"⟩
abbrev cX10_feed : ByteArray := prog_12_method_17_code
def yX10_feed : MethodName := ⟨RX10, "feed", "(I)I"⟩
abbrev cX10_picture : ByteArray := prog_12_method_18_code
def yX10_picture : MethodName := ⟨RX10, "picture", "()I"⟩
abbrev cX10_fault : ByteArray := prog_12_method_19_code
def yX10_fault : MethodName := ⟨RX10, "fault", "()I"⟩
abbrev cX10_part : ByteArray := prog_12_method_20_code
def yX10_part : MethodName := ⟨RX10, "part", "(II)I"⟩
abbrev cX10_count : ByteArray := prog_12_method_21_code
def yX10_count : MethodName := ⟨RX10, "count", "(I)V"⟩
abbrev cX10_leftOver : ByteArray := prog_12_method_22_code
def yX10_leftOver : MethodName := ⟨RX10, "leftOver", "(II)I"⟩
abbrev cX10_standIn : ByteArray := prog_12_method_23_code
def yX10_standIn : MethodName := ⟨RX10, "standIn", "(III)I"⟩
abbrev cX10_countOut : ByteArray := prog_12_method_24_code
def yX10_countOut : MethodName := ⟨RX10, "countOut", "(III)V"⟩
abbrev cX10_countAt : ByteArray := prog_12_method_25_code
def yX10_countAt : MethodName := ⟨RX10, "countAt", "(IIIZ)V"⟩
abbrev cX10_layWindow : ByteArray := prog_12_method_26_code
def yX10_layWindow : MethodName := ⟨RX10, "layWindow", "(III)V"⟩
abbrev cX10_lastOf : ByteArray := prog_12_method_27_code
def yX10_lastOf : MethodName := ⟨RX10, "lastOf", "(III)I"⟩
abbrev cX10_applyNow : ByteArray := prog_12_method_28_code
def yX10_applyNow : MethodName := ⟨RX10, "applyNow", "(I)I"⟩
abbrev cX10_masked : ByteArray := prog_12_method_29_code
def yX10_masked : MethodName := ⟨RX10, "masked", "()I"⟩
abbrev cX10_ofGreys : ByteArray := prog_12_method_30_code
def yX10_ofGreys : MethodName := ⟨RX10, "ofGreys", "(I)I"⟩
abbrev cX10_wrong : ByteArray := prog_12_method_31_code
def yX10_wrong : MethodName := ⟨RX10, "wrong", "()I"⟩
abbrev cX10_told : ByteArray := prog_12_method_32_code
def yX10_told : MethodName := ⟨RX10, "told", "(I)I"⟩
abbrev cX10_at : ByteArray := prog_12_method_33_code
def yX10_at : MethodName := ⟨RX10, "at", "(III)I"⟩
abbrev cX10_tally : ByteArray := prog_12_method_34_code
def yX10_tally : MethodName := ⟨RX10, "tally", "(IIIII)I"⟩
abbrev cX10_filter : ByteArray := prog_12_method_35_code
def yX10_filter : MethodName := ⟨RX10, "filter", "(IIIII)I"⟩
abbrev cX10_isFilter : ByteArray := prog_12_method_36_code
def yX10_isFilter : MethodName := ⟨RX10, "isFilter", "(I)Z"⟩
abbrev cX10_drop : ByteArray := prog_12_method_37_code
def yX10_drop : MethodName := ⟨RX10, "drop", "(I)I"⟩
abbrev cX10_fill : ByteArray := prog_12_method_38_code
def yX10_fill : MethodName := ⟨RX10, "fill", "(I)I"⟩
abbrev cX10_below : ByteArray := prog_12_method_39_code
def yX10_below : MethodName := ⟨RX10, "below", "(I)I"⟩
abbrev cX10_would : ByteArray := prog_12_method_40_code
def yX10_would : MethodName := ⟨RX10, "would", "(IIII)I"⟩
abbrev cX10_bins : ByteArray := prog_12_method_41_code
def yX10_bins : MethodName := ⟨RX10, "bins", "(I)I"⟩
abbrev cX10_spikes : ByteArray := prog_12_method_42_code
def yX10_spikes : MethodName := ⟨RX10, "spikes", "(II)I"⟩
abbrev cX10_dot : ByteArray := prog_12_method_43_code
def yX10_dot : MethodName := ⟨RX10, "dot", "(III)I"⟩
abbrev cX10_mask : ByteArray := prog_12_method_44_code
def yX10_mask : MethodName := ⟨RX10, "mask", "(IIZ)I"⟩
abbrev cX10_turnedFrom : ByteArray := prog_12_method_45_code
def yX10_turnedFrom : MethodName := ⟨RX10, "turnedFrom", "(III)I"⟩
abbrev cX10_turn : ByteArray := prog_12_method_46_code
def yX10_turn : MethodName := ⟨RX10, "turn", "(I)I"⟩
abbrev cX10_filtered : ByteArray := prog_12_method_47_code
def yX10_filtered : MethodName := ⟨RX10, "filtered", "(I)I"⟩
abbrev cX10_all : ByteArray := prog_12_method_48_code
def yX10_all : MethodName := ⟨RX10, "all", "()I"⟩
abbrev cX10_until : ByteArray := prog_12_method_49_code
def yX10_until : MethodName := ⟨RX10, "until", "(II)I"⟩
abbrev cX10_draw : ByteArray := prog_12_method_50_code
def yX10_draw : MethodName := ⟨RX10, "draw", "(I)I"⟩
abbrev cX10_noise : ByteArray := prog_12_method_51_code
def yX10_noise : MethodName := ⟨RX10, "noise", "(I)I"⟩
abbrev cX10_undo : ByteArray := prog_12_method_52_code
def yX10_undo : MethodName := ⟨RX10, "undo", "(I)I"⟩
abbrev cX10_write : ByteArray := prog_12_method_53_code
def yX10_write : MethodName := ⟨RX10, "write", "(III)I"⟩
abbrev cX10_tear : ByteArray := prog_12_method_54_code
def yX10_tear : MethodName := ⟨RX10, "tear", "()I"⟩
abbrev cX10_seed : ByteArray := prog_12_method_55_code
def yX10_seed : MethodName := ⟨RX10, "seed", "(I)I"⟩
abbrev cX10_isKept : ByteArray := prog_12_method_56_code
def yX10_isKept : MethodName := ⟨RX10, "isKept", "(I)Z"⟩
abbrev cX10_keep : ByteArray := prog_12_method_57_code
def yX10_keep : MethodName := ⟨RX10, "keep", "(I)I"⟩
abbrev cX10_goBack : ByteArray := prog_12_method_58_code
def yX10_goBack : MethodName := ⟨RX10, "goBack", "(I)I"⟩
abbrev cX10_against : ByteArray := prog_12_method_59_code
def yX10_against : MethodName := ⟨RX10, "against", "(I)I"⟩
def RJ9 : String := "java/lang/Math"
def TJ9 : u_T := fun k => match k with
  | _ => ("", "", "", false)
def tyJ9 : Nat → FieldType := fun k => match k with
  | _ => .int
abbrev wsJ90 : List Cond := u_ws RJ9 TJ9 0
theorem nmJ9 : ∀ a, a < 0 → ∀ b, b < 0 → a ≠ b → (TJ9 a).2.1 ≠ (TJ9 b).2.1 := by decide +kernel
theorem tyJ9_ok : ∀ k, k < 0 → parseFieldDescriptor (TJ9 k).2.2.1 = some (tyJ9 k) := by decide +kernel
abbrev cJ9_floorMod_7cf53 : ByteArray := prog_13_method_50_code
def yJ9_floorMod_7cf53 : MethodName := ⟨RJ9, "floorMod", "(II)I"⟩
abbrev cJ9_abs_0f7a4 : ByteArray := prog_13_method_59_code
def yJ9_abs_0f7a4 : MethodName := ⟨RJ9, "abs", "(I)I"⟩
abbrev cJ9_min_7cf53 : ByteArray := prog_13_method_69_code
def yJ9_min_7cf53 : MethodName := ⟨RJ9, "min", "(II)I"⟩
def RJ7 : String := "java/util/Arrays"
def TJ7 : u_T := fun k => match k with
  | _ => ("", "", "", false)
def tyJ7 : Nat → FieldType := fun k => match k with
  | _ => .int
abbrev wsJ70 : List Cond := u_ws RJ7 TJ7 0
theorem nmJ7 : ∀ a, a < 0 → ∀ b, b < 0 → a ≠ b → (TJ7 a).2.1 ≠ (TJ7 b).2.1 := by decide +kernel
theorem tyJ7_ok : ∀ k, k < 0 → parseFieldDescriptor (TJ7 k).2.2.1 = some (tyJ7 k) := by decide +kernel
abbrev cJ7_fill_53178 : ByteArray := prog_14_method_103_code
def yJ7_fill_53178 : MethodName := ⟨RJ7, "fill", "([II)V"⟩
def RL : String := "TalliedWindowsLaw"
abbrev cL_law : ByteArray := code
def yL_law : MethodName := ⟨RL, "law", "([I)Z"⟩
abbrev vwCl : List vw_C := [(RX0, TX0, 4), (RX1, TX1, 5), (RX2, TX2, 2), (RX3, TX3, 3), (RX4, TX4, 4), (RX5, TX5, 6), (RX6, TX6, 4), (RX7, TX7, 3), (RX8, TX8, 3), (RX9, TX9, 10), (RX10, TX10, 23)]
end
section
/-! ===== THE ABSTRACT MACHINE: the cells made since the law began, by their places; a method's walk and contract over them ===== -/
abbrev ex_M : Type := MethodName × ByteArray × Nat × Option FieldType × Option (Nat × (Nat → Int32))
abbrev ex_C : Type := (FieldType × Nat × (Nat → Int32)) ⊕ (String × Nat × (Nat → Option Nat)) ⊕ (Nat × List Value)
abbrev ex_H : Type := List ex_C
abbrev ar (ty : FieldType) (n : Nat) (f : Nat → Int32) : ex_C := .inl (ty, n, f)
abbrev rr (C : String) (n : Nat) (f : Nat → Option Nat) : ex_C := .inr (.inl (C, n, f))
abbrev ob (ci : Nat) (fs : List Value) : ex_C := .inr (.inr (ci, fs))
abbrev ex_B : Type := Nat × Nat
def ex_v (b : ex_B) (v : Value) : Value := match v with
  | .ref k => .ref (b.1 + k)
  | .retAddr _ => .ref b.2
  | .int x => .int x
  | .long x => .long x
  | .float x => .float x
  | .double x => .double x
  | .null => .null
theorem ex_v_cat (b : ex_B) (v : Value) : (ex_v b v).category = v.category := by cases v <;> rfl
def ex_e (b : ex_B) (dA : FieldType → ClassId) (c : ex_C) : va_E := match c with
  | .inl (ty, n, f) => .inl (dA ty, n, .inl f)
  | .inr (.inl (C, n, f)) => .inl (dA (.object C), n, .inr (.inr (.inr (.inr (fun j => (f j).map (fun k => b.1 + k))))))
  | .inr (.inr (ci, fs)) => .inr (ci, fs.map (ex_v b))
def ex_g : List Cond := lw_tbl.filter goodWord
theorem ex_g_good : ∀ w ∈ ex_g, (w.onTables && w.keeps) = true ∨ ∃ ty, w = .arrayClass ty := fun w h => good_of_word (List.mem_filter.mp h).2
def ex_tys (dA : FieldType → ClassId) : List (ClassId × FieldType) := [(dA .int, .int), (dA .boolean, .boolean), (dA (.object RX1), .object RX1), (dA (.object RX4), .object RX4), (dA (.object RX6), .object RX6)]
def ex_K (D : va_G) (dA : FieldType → ClassId) (U : State) : Prop :=
  va_K D vwCl (ex_tys dA) U ∧ (∀ (a : String) (i : Nat) (x : MethodName) (h : String), Cond.methodLinkNest a i x h ∈ lw_tbl → va_Nw (.methodLinkNest a i x h) U) ∧ (∀ C : String, Cond.arrayOver (.object C) ∈ lw_tbl → va_AO C U)
theorem ex_K.warm {D : va_G} {dA : FieldType → ClassId} {s U : State} (hW : s.WarmedH U.vm) (h : ex_K D dA s) : ex_K D dA U :=
  ⟨va_K.moved hW.alike h.1, fun a i x y hm => va_Nw.warmM hW (h.2.1 a i x y hm), fun C hm => va_AO.moved hW.alike (h.2.2 C hm)⟩
theorem ex_K.same {D : va_G} {dA : FieldType → ClassId} {s U : State} (hv : s.vm = U.vm) (h : ex_K D dA s) : ex_K D dA U :=
  ⟨va_K.moved (by rw [hv]; exact Vm.Alike.refl _) h.1, fun a i x y hm => va_Nw.same rfl hv (h.2.1 a i x y hm), fun C hm => va_AO.moved (by rw [hv]; exact Vm.Alike.refl _) (h.2.2 C hm)⟩
def ex_P (D : va_G) (dA : FieldType → ClassId) (b : ex_B) (H : ex_H) (HH : Heap) : Prop := HH.size = b.1 + H.length ∧ ∀ (k : Nat) (c : ex_C), H[k]? = some c → va_at D vwCl (b.1 + k, ex_e b dA c) HH
theorem ex_P.set {D : va_G} {dA : FieldType → ClassId} {b : ex_B} {H : ex_H} {HH H1 : Heap} {k : Nat} {c0 c : ex_C} (h : ex_P D dA b H HH) (hk : H[k]? = some c0) (hz : H1.size = HH.size) (ho : ∀ q : Nat, q ≠ b.1 + k → H1[q]? = HH[q]?) (he : va_at D vwCl (b.1 + k, ex_e b dA c) H1) : ex_P D dA b (H.set k c) H1 := by
  have hl := (List.getElem?_eq_some_iff.mp hk).1
  refine ⟨by rw [hz, h.1, List.length_set], fun j x hj => ?_⟩
  by_cases hjk : j = k
  · subst hjk
    rw [List.getElem?_set_self hl] at hj
    cases hj
    exact he
  · rw [List.getElem?_set_ne (Ne.symm hjk)] at hj
    exact (h.2 j x hj).kept (ho _ (fun z => hjk (Nat.add_left_cancel z)))
theorem ex_P.push {D : va_G} {dA : FieldType → ClassId} {b : ex_B} {H : ex_H} {HH H1 : Heap} {c : ex_C} (h : ex_P D dA b H HH) (hz : H1.size = HH.size + 1) (ho : ∀ q : Nat, q < HH.size → H1[q]? = HH[q]?) (he : va_at D vwCl (b.1 + H.length, ex_e b dA c) H1) : ex_P D dA b (H ++ [c]) H1 := by
  refine ⟨by rw [hz, h.1, List.length_append, List.length_singleton, Nat.add_assoc], fun j x hj => ?_⟩
  by_cases hl : j < H.length
  · rw [List.getElem?_append_left hl] at hj
    exact (h.2 j x hj).kept (ho _ (by rw [h.1]; exact Nat.add_lt_add_left hl _))
  · rw [List.getElem?_append_right (by omega)] at hj
    have hz1 : j - H.length < 1 := (List.getElem?_eq_some_iff.mp hj).1
    have hj0 : j = H.length := by omega
    subst hj0
    rw [Nat.sub_self] at hj
    cases hj
    exact he
def ex_R (d mc ms : Nat) : Room := { frames := d, cells := mc, slots := ms, locals := 38 * d + 4 }
def ex_L (b : ex_B) (nL : Nat) (lsr : Array Slot) (ls : List (Nat × Value)) : Prop := lsr.size = nL ∧ lv_wf lsr ∧ ∀ (i : Nat) (v : Value), ls.lookup i = some v → lsr[i]? = some (.val (ex_v b v))
def ex_Q (D : va_G) (dA : FieldType → ClassId) (b : ex_B) (post : ex_H → Option Value → Prop) : Array Value → State → Outcome → State → Prop := fun _ st oc t =>
  (∃ (H' : ex_H) (r : Option Value), oc = .returned (r.map (ex_v b)) ∧ post H' r ∧ ex_P D dA b H' t.heap) ∧ va_F (fun q => b.1 ≤ q) st t
def ex_X (M : ex_M) (p : Program) (s : State) (m : MethodId) (args : Array Value) (meth : Method) (c : Code) (D : va_G) (dA : FieldType → ClassId) (b : ex_B) : Prop :=
  p.tables.exec = Jvm.exec ∧ c.code = M.2.1 ∧ meth.sig.returnType = M.2.2.2.1 ∧ meth.locks = false ∧ c.maxLocals = M.2.2.1 ∧ s.vm.findClass M.1.cls = some m.cls ∧ meth.name = M.1.name ∧ (∀ w ∈ ex_g, w.before args s = true) ∧ ex_K D dA s ∧
  ∀ (L : Nat) (xs : Nat → Int32), M.2.2.2.2 = some (L, xs) → va_X b.2 L xs s s.heap ∧ b.2 < s.heap.size ∧ b.2 < b.1
/-- the walk: method M stands at pc with the locals ls, the stack st, over the cells H -/
def ex_W (M : ex_M) (d mc ms : Nat) (post : ex_H → Option Value → Prop) (H : ex_H) (pc : Nat) (ls : List (Nat × Value)) (st : List Value) (cells slots : Nat) : Prop :=
  ∀ (p : Program) (l : Launch) (e : Env) (s : State) (m : MethodId) (args : Array Value) (below : List Frame) (meth : Method) (c : Code) (D : va_G) (dA : FieldType → ClassId) (b : ex_B), ex_X M p s m args meth c D dA b →
    ∀ (HH : Heap) (locs : List Loc) (lsr : Array Slot), ex_P D dA b H HH → va_S (fun q => b.1 ≤ q) s.heap HH locs → ex_L b M.2.2.1 lsr ls →
    W p l e (ex_R d mc ms) s m args below meth c HH locs cells slots (MQ below (ex_Q D dA b post) args s mc ms (fun q => b.1 ≤ q)) (F0 m pc lsr (st.map (ex_v b)))
/-- the contract: method N over the cells H with the arguments As returns, with 'post' of the cells and the answer -/
def ex_Met (N : ex_M) (d mc ms : Nat) (H : ex_H) (As : List Value) (post : ex_H → Option Value → Prop) : Prop :=
  ∀ (l : Launch) (D : va_G) (dA : FieldType → ClassId) (b : ex_B), Met l N.1 (.code N.1 N.2.1 N.2.2.1 N.2.2.2.1 :: ex_g) (ex_R d mc ms) (va_Pc (As.map (ex_v b)) (fun U => ex_P D dA b H U.heap ∧ ex_K D dA U)) (ex_Q D dA b post) mc ms (fun q => b.1 ≤ q)
theorem ex_lv_args (b : ex_B) : ∀ (As : List Value) (i : Nat), lv_args i (As.map (ex_v b)) = (lv_args i As).map (fun q => (q.1, ex_v b q.2))
  | [], _ => rfl
  | v :: As, i => by
    show (i, ex_v b v) :: lv_args (if (ex_v b v).category = 2 then i + 2 else i + 1) (As.map (ex_v b)) = (i, ex_v b v) :: (lv_args (if v.category = 2 then i + 2 else i + 1) As).map (fun q => (q.1, ex_v b q.2))
    rw [ex_v_cat, ex_lv_args b As]
theorem ex_lookup_mem : ∀ (ls : List (Nat × Value)) (i : Nat) (v : Value), ls.lookup i = some v → (i, v) ∈ ls
  | [], _, _, h => by cases h
  | (j, w) :: ls, i, v, h => by
    by_cases hij : i = j
    · subst hij
      rw [List.lookup_cons_self] at h
      cases h
      exact List.mem_cons_self
    · have hb : (i == j) = false := by simpa using hij
      simp only [List.lookup, hb] at h
      exact List.mem_cons_of_mem _ (ex_lookup_mem ls i v h)
theorem ex_meth {N : ex_M} {d mc ms : Nat} {H : ex_H} {As : List Value} {post : ex_H → Option Value → Prop} (ls : List (Nat × Value)) (hls : lv_args 0 As = ls) (hy : plainName N.1.cls = true) (hsp : N.2.2.2.2 = none)
    (hL : ∀ b : ex_B, (lg_sl (As.map (ex_v b))).length ≤ N.2.2.1) (k : ex_W N d mc ms post H 0 ls [] 0 0) : ex_Met N d mc ms H As post := by
  intro l D dA b
  refine Met.ofW (cc := N.2.1) (maxL := N.2.2.1) (ret := N.2.2.2.1) hy rfl ?_
  intro p e s m args below meth c s₁ B hml hv
  obtain ⟨rfl, hP, hK⟩ := hv
  have hts := atoms_spec (ws := .code N.1 N.2.1 N.2.2.1 N.2.2.2.1 :: ex_g) B.pre
  have hl := lv_entry (As.map (ex_v b)) (n := N.2.2.1) (hL b)
  rw [lg_entry_eq]
  refine k p l e s m _ below meth c D dA b ⟨B.exec, B.bytes, B.returns, B.notSynchronized, hml, findClass_of_methodNamed B.named, (name_of_methodNamed B.named B.method).1, fun w hw => hts w (List.mem_cons_of_mem _ hw), hK, fun L xs h => by rw [hsp] at h; cases h⟩ s.heap [] _ hP va_S.rf ?_
  refine ⟨hl.1, hl.2.1, fun i v hi => ?_⟩
  have hm := ex_lookup_mem _ _ _ hi
  rw [← hls] at hm
  exact hl.2.2 (i, ex_v b v) (by rw [ex_lv_args]; exact List.mem_map.mpr ⟨(i, v), hm, rfl⟩)
section EW
variable {M : ex_M} {d mc ms : Nat} {post : ex_H → Option Value → Prop} {H : ex_H} {pc : Nat} {ls : List (Nat × Value)} {st : List Value} {cells slots : Nat}
def ex_sub : List (Nat × Value) → List (Nat × Value) → Prop
  | [], _ => True
  | q :: r, ls => ls.lookup q.1 = some q.2 ∧ ex_sub r ls
theorem ex_sub_lookup : ∀ (l' ls : List (Nat × Value)), ex_sub l' ls → ∀ i v, l'.lookup i = some v → ls.lookup i = some v
  | [], _, _, _, _, h => by cases h
  | (j, w) :: l', ls, hs, i, v, h => by
    by_cases hij : i = j
    · subst hij
      rw [List.lookup_cons_self] at h
      cases h
      exact hs.1
    · have hb : (i == j) = false := by simpa using hij
      simp only [List.lookup, hb] at h
      exact ex_sub_lookup l' ls hs.2 i v h
/-- fewer locals are known -/
theorem ew_ls (ls' : List (Nat × Value)) (hs : ex_sub ls' ls) (k : ex_W M d mc ms post H pc ls' st cells slots) : ex_W M d mc ms post H pc ls st cells slots := by
  intro p l e s m args below meth c D dA b X HH locs lsr hP hS hL
  exact k p l e s m args below meth c D dA b X HH locs lsr hP hS ⟨hL.1, hL.2.1, fun i v h => hL.2.2 i v (ex_sub_lookup _ _ hs i v h)⟩
theorem ew_post {post' : ex_H → Option Value → Prop} (hq : ∀ H' r, post' H' r → post H' r) (k : ex_W M d mc ms post' H pc ls st cells slots) : ex_W M d mc ms post H pc ls st cells slots := by
  intro p l e s m args below meth c D dA b X HH locs lsr hP hS hL T hT XT
  obtain ⟨t, h1, o, h2, h3, ⟨⟨H', r, e1, e2, e3⟩, e4⟩, h5⟩ := k p l e s m args below meth c D dA b X HH locs lsr hP hS hL T hT XT
  exact ⟨t, h1, o, h2, h3, ⟨⟨H', r, e1, hq H' r e2, e3⟩, e4⟩, h5⟩

theorem ew_iconst {n : Int} (hd : decode M.2.1 pc = .ok (.iconst n, 1)) {v : Int32} (hv : Int32.ofInt n = v) (k : ex_W M d mc ms post H (pc + 1) ls (.int v :: st) cells slots) : ex_W M d mc ms post H pc ls (st) cells slots := by
  intro p l e s m args below meth c D dA b X HH locs lsr hP hS hL
  exact lv_iconst X.1 X.2.1 hd hv (k p l e s m args below meth c D dA b X HH locs lsr hP hS hL)
theorem ew_bipush {n : Int} (hd : decode M.2.1 pc = .ok (.bipush n, 2)) {v : Int32} (hv : (Int8.ofInt n).toInt32 = v) (k : ex_W M d mc ms post H (pc + 2) ls (.int v :: st) cells slots) : ex_W M d mc ms post H pc ls (st) cells slots := by
  intro p l e s m args below meth c D dA b X HH locs lsr hP hS hL
  exact lv_bipush X.1 X.2.1 hd hv (k p l e s m args below meth c D dA b X HH locs lsr hP hS hL)
theorem ew_sipush {n : Int} (hd : decode M.2.1 pc = .ok (.sipush n, 3)) {v : Int32} (hv : (Int16.ofInt n).toInt32 = v) (k : ex_W M d mc ms post H (pc + 3) ls (.int v :: st) cells slots) : ex_W M d mc ms post H pc ls (st) cells slots := by
  intro p l e s m args below meth c D dA b X HH locs lsr hP hS hL
  exact lv_sipush X.1 X.2.1 hd hv (k p l e s m args below meth c D dA b X HH locs lsr hP hS hL)
theorem ew_lconst {n : Fin 2} (hd : decode M.2.1 pc = .ok (.lconst n, 1)) {v : Int64} (hv : Int64.ofNat (n : Nat) = v) (k : ex_W M d mc ms post H (pc + 1) ls (.long v :: st) cells slots) : ex_W M d mc ms post H pc ls (st) cells slots := by
  intro p l e s m args below meth c D dA b X HH locs lsr hP hS hL
  exact lv_lconst X.1 X.2.1 hd hv (k p l e s m args below meth c D dA b X HH locs lsr hP hS hL)
theorem ew_ldc {i : Nat} {v : Int32} (hd : decode M.2.1 pc = .ok (.ldc i, 2)) (hw : Cond.constant M.1.cls i v ∈ ex_g) (k : ex_W M d mc ms post H (pc + 2) ls (.int v :: st) cells slots) : ex_W M d mc ms post H pc ls (st) cells slots := by
  intro p l e s m args below meth c D dA b X HH locs lsr hP hS hL
  exact lv_ldc X.1 X.2.1 X.2.2.2.2.2.1 (X.2.2.2.2.2.2.2.1 _ hw) hd (k p l e s m args below meth c D dA b X HH locs lsr hP hS hL)
theorem ew_ldc2 {i : Nat} {v : Int64} (hd : decode M.2.1 pc = .ok (.ldc2_w i, 3)) (hw : Cond.constantLong M.1.cls i v ∈ ex_g) (k : ex_W M d mc ms post H (pc + 3) ls (.long v :: st) cells slots) : ex_W M d mc ms post H pc ls (st) cells slots := by
  intro p l e s m args below meth c D dA b X HH locs lsr hP hS hL
  exact lv_ldc2 X.1 X.2.1 X.2.2.2.2.2.1 (X.2.2.2.2.2.2.2.1 _ hw) hd (k p l e s m args below meth c D dA b X HH locs lsr hP hS hL)
theorem ew_iload_n {j : Fin 4} {x : Int32} (hd : decode M.2.1 pc = .ok (.iload_n j, 1)) (hl : ls.lookup (j : Nat) = some (.int x)) (k : ex_W M d mc ms post H (pc + 1) ls (.int x :: st) cells slots) : ex_W M d mc ms post H pc ls (st) cells slots := by
  intro p l e s m args below meth c D dA b X HH locs lsr hP hS hL
  exact lv_iload_n X.1 X.2.1 hd rfl (hL.2.2 _ _ hl) (k p l e s m args below meth c D dA b X HH locs lsr hP hS hL)
theorem ew_iload {i : Nat} {x : Int32} (hd : decode M.2.1 pc = .ok (.iload i, 2)) (hl : ls.lookup i = some (.int x)) (k : ex_W M d mc ms post H (pc + 2) ls (.int x :: st) cells slots) : ex_W M d mc ms post H pc ls (st) cells slots := by
  intro p l e s m args below meth c D dA b X HH locs lsr hP hS hL
  exact lv_iload X.1 X.2.1 hd (hL.2.2 _ _ hl) (k p l e s m args below meth c D dA b X HH locs lsr hP hS hL)
theorem ew_lload_n {j : Fin 4} {x : Int64} (hd : decode M.2.1 pc = .ok (.lload_n j, 1)) (hl : ls.lookup (j : Nat) = some (.long x)) (k : ex_W M d mc ms post H (pc + 1) ls (.long x :: st) cells slots) : ex_W M d mc ms post H pc ls (st) cells slots := by
  intro p l e s m args below meth c D dA b X HH locs lsr hP hS hL
  exact lv_lload_n X.1 X.2.1 hd rfl (hL.2.2 _ _ hl) (k p l e s m args below meth c D dA b X HH locs lsr hP hS hL)
theorem ew_lload {i : Nat} {x : Int64} (hd : decode M.2.1 pc = .ok (.lload i, 2)) (hl : ls.lookup i = some (.long x)) (k : ex_W M d mc ms post H (pc + 2) ls (.long x :: st) cells slots) : ex_W M d mc ms post H pc ls (st) cells slots := by
  intro p l e s m args below meth c D dA b X HH locs lsr hP hS hL
  exact lv_lload X.1 X.2.1 hd (hL.2.2 _ _ hl) (k p l e s m args below meth c D dA b X HH locs lsr hP hS hL)
theorem ew_aload_n {j : Fin 4} {v : Value} (hd : decode M.2.1 pc = .ok (.aload_n j, 1)) (hl : ls.lookup (j : Nat) = some v) (hv : v = .null ∨ (∃ a, v = .ref a) ∨ ∃ a, v = .retAddr a) (k : ex_W M d mc ms post H (pc + 1) ls (v :: st) cells slots) : ex_W M d mc ms post H pc ls st cells slots := by
  intro p l e s m args below meth c D dA b X HH locs lsr hP hS hL
  have hq := hL.2.2 _ _ hl
  have hk := k p l e s m args below meth c D dA b X HH locs lsr hP hS hL
  rcases hv with rfl | ⟨a, rfl⟩ | ⟨a, rfl⟩
  · exact lv_aload_nN X.1 X.2.1 hd rfl hq hk
  · exact lv_aload_n X.1 X.2.1 hd rfl hq hk
  · exact lv_aload_n X.1 X.2.1 hd rfl hq hk
theorem ew_aload {i : Nat} {v : Value} (hd : decode M.2.1 pc = .ok (.aload i, 2)) (hl : ls.lookup i = some v) (hv : v = .null ∨ (∃ a, v = .ref a) ∨ ∃ a, v = .retAddr a) (k : ex_W M d mc ms post H (pc + 2) ls (v :: st) cells slots) : ex_W M d mc ms post H pc ls st cells slots := by
  intro p l e s m args below meth c D dA b X HH locs lsr hP hS hL
  have hq := hL.2.2 _ _ hl
  have hk := k p l e s m args below meth c D dA b X HH locs lsr hP hS hL
  rcases hv with rfl | ⟨a, rfl⟩ | ⟨a, rfl⟩
  · exact lv_aloadN X.1 X.2.1 hd  hq hk
  · exact lv_aload X.1 X.2.1 hd  hq hk
  · exact lv_aload X.1 X.2.1 hd  hq hk
theorem ex_L.store {b : ex_B} {nL : Nat} {lsr ls' : Array Slot} {ls : List (Nat × Value)} {i : Nat} {v : Value} (hL : ex_L b nL lsr ls) (hc : ls.all (fun q => q.2.category == 1) = true)
    (h : lv_has ls' nL ((i, ex_v b v) :: (ls.filterMap (fun q => (ls.lookup q.1).map (fun w => (q.1, ex_v b w)))).filter (fun q => !(q.1 == i) && !(q.1 + 1 == i && q.2.category == 2)))) : ex_L b nL ls' ((i, v) :: ls) := by
  refine ⟨h.1, h.2.1, fun j w hj => ?_⟩
  by_cases hij : j = i
  · subst hij
    rw [List.lookup_cons_self] at hj
    cases hj
    exact h.2.2 (j, ex_v b v) List.mem_cons_self
  · have hb : (j == i) = false := by simpa using hij
    simp only [List.lookup, hb] at hj
    have hm := ex_lookup_mem _ _ _ hj
    have hcat : w.category = 1 := by
      have := List.all_eq_true.mp hc _ hm
      simpa using this
    refine h.2.2 (j, ex_v b w) (List.mem_cons_of_mem _ (List.mem_filter.mpr ⟨List.mem_filterMap.mpr ⟨(j, w), hm, by simp [hj]⟩, ?_⟩))
    simp [hij, ex_v_cat, hcat]
theorem ex_L.has {b : ex_B} {nL : Nat} {lsr : Array Slot} {ls : List (Nat × Value)} (hL : ex_L b nL lsr ls) : lv_has lsr nL (ls.filterMap (fun q => (ls.lookup q.1).map (fun w => (q.1, ex_v b w)))) := by
  refine ⟨hL.1, hL.2.1, fun q hq => ?_⟩
  obtain ⟨x, -, hx⟩ := List.mem_filterMap.mp hq
  obtain ⟨w, hw, rfl⟩ := Option.map_eq_some_iff.mp hx
  exact hL.2.2 _ _ hw
theorem ew_istore_n {j : Fin 4} {x : Int32} (hd : decode M.2.1 pc = .ok (.istore_n j, 1)) (hn : (j : Nat) < M.2.2.1) (hc : ls.all (fun q => q.2.category == 1) = true) (k : ex_W M d mc ms post H (pc + 1) (((j : Nat), .int x) :: ls) st cells slots) : ex_W M d mc ms post H pc ls (.int x :: st) cells slots := by
  intro p l e s m args below meth c D dA b X HH locs lsr hP hS hL
  exact lv_istore_n X.1 X.2.1 hd rfl hL.has hn rfl (fun ls' h => k p l e s m args below meth c D dA b X HH locs ls' hP hS (hL.store (v := .int x) hc h))
theorem ew_istore {i : Nat} {x : Int32} (hd : decode M.2.1 pc = .ok (.istore i, 2)) (hn : i < M.2.2.1) (hc : ls.all (fun q => q.2.category == 1) = true) (k : ex_W M d mc ms post H (pc + 2) ((i, .int x) :: ls) st cells slots) : ex_W M d mc ms post H pc ls (.int x :: st) cells slots := by
  intro p l e s m args below meth c D dA b X HH locs lsr hP hS hL
  exact lv_istore X.1 X.2.1 hd  hL.has hn rfl (fun ls' h => k p l e s m args below meth c D dA b X HH locs ls' hP hS (hL.store (v := .int x) hc h))
theorem ew_astore_n {j : Fin 4} {v : Value} (hd : decode M.2.1 pc = .ok (.astore_n j, 1)) (hv : v = .null ∨ ∃ a, v = .ref a) (hn : (j : Nat) < M.2.2.1) (hc : ls.all (fun q => q.2.category == 1) = true) (k : ex_W M d mc ms post H (pc + 1) (((j : Nat), v) :: ls) st cells slots) : ex_W M d mc ms post H pc ls (v :: st) cells slots := by
  intro p l e s m args below meth c D dA b X HH locs lsr hP hS hL
  rcases hv with rfl | ⟨a, rfl⟩
  · exact lv_astore_nN X.1 X.2.1 hd rfl hL.has hn rfl (fun ls' h => k p l e s m args below meth c D dA b X HH locs ls' hP hS (hL.store (v := .null) hc h))
  · exact lv_astore_n X.1 X.2.1 hd rfl hL.has hn rfl (fun ls' h => k p l e s m args below meth c D dA b X HH locs ls' hP hS (hL.store (v := .ref a) hc h))
theorem ew_astore {i : Nat} {v : Value} (hd : decode M.2.1 pc = .ok (.astore i, 2)) (hv : v = .null ∨ ∃ a, v = .ref a) (hn : i < M.2.2.1) (hc : ls.all (fun q => q.2.category == 1) = true) (k : ex_W M d mc ms post H (pc + 2) ((i, v) :: ls) st cells slots) : ex_W M d mc ms post H pc ls (v :: st) cells slots := by
  intro p l e s m args below meth c D dA b X HH locs lsr hP hS hL
  rcases hv with rfl | ⟨a, rfl⟩
  · exact lv_astoreN X.1 X.2.1 hd  hL.has hn rfl (fun ls' h => k p l e s m args below meth c D dA b X HH locs ls' hP hS (hL.store (v := .null) hc h))
  · exact lv_astore X.1 X.2.1 hd  hL.has hn rfl (fun ls' h => k p l e s m args below meth c D dA b X HH locs ls' hP hS (hL.store (v := .ref a) hc h))
theorem ew_iinc {i : Nat} {n : Int} {x v : Int32} (hd : decode M.2.1 pc = .ok (.iinc i n, 3)) (hl : ls.lookup i = some (.int x)) (hv : x + Int32.ofInt n = v) (hn : i < M.2.2.1) (hc : ls.all (fun q => q.2.category == 1) = true) (k : ex_W M d mc ms post H (pc + 3) ((i, .int v) :: ls) st cells slots) : ex_W M d mc ms post H pc ls st cells slots := by
  intro p l e s m args below meth c D dA b X HH locs lsr hP hS hL
  have hm := ex_lookup_mem _ _ _ hl
  have hm2 : (i, Value.int x) ∈ ls.filterMap (fun q => (ls.lookup q.1).map (fun w => (q.1, ex_v b w))) := List.mem_filterMap.mpr ⟨(i, .int x), hm, by simp [hl, ex_v]⟩
  obtain ⟨kk, hkk⟩ := List.getElem?_of_mem hm2
  exact lv_iinc X.1 X.2.1 hd hL.has hkk hv hn rfl (fun ls' h => k p l e s m args below meth c D dA b X HH locs ls' hP hS (hL.store (v := .int v) hc h))
theorem ew_iadd {x y : Int32} (hd : decode M.2.1 pc = .ok (.iadd, 1)) (k : ex_W M d mc ms post H (pc + 1) ls (.int (x + y) :: st) cells slots) : ex_W M d mc ms post H pc ls (.int y :: .int x :: st) cells slots := by
  intro p l e s m args below meth c D dA b X HH locs lsr hP hS hL
  exact lv_iadd X.1 X.2.1 hd (k p l e s m args below meth c D dA b X HH locs lsr hP hS hL)
theorem ew_isub {x y : Int32} (hd : decode M.2.1 pc = .ok (.isub, 1)) (k : ex_W M d mc ms post H (pc + 1) ls (.int (x - y) :: st) cells slots) : ex_W M d mc ms post H pc ls (.int y :: .int x :: st) cells slots := by
  intro p l e s m args below meth c D dA b X HH locs lsr hP hS hL
  exact lv_isub X.1 X.2.1 hd (k p l e s m args below meth c D dA b X HH locs lsr hP hS hL)
theorem ew_imul {x y : Int32} (hd : decode M.2.1 pc = .ok (.imul, 1)) (k : ex_W M d mc ms post H (pc + 1) ls (.int (x * y) :: st) cells slots) : ex_W M d mc ms post H pc ls (.int y :: .int x :: st) cells slots := by
  intro p l e s m args below meth c D dA b X HH locs lsr hP hS hL
  exact lv_imul X.1 X.2.1 hd (k p l e s m args below meth c D dA b X HH locs lsr hP hS hL)
theorem ew_iand {x y : Int32} (hd : decode M.2.1 pc = .ok (.iand, 1)) (k : ex_W M d mc ms post H (pc + 1) ls (.int (x &&& y) :: st) cells slots) : ex_W M d mc ms post H pc ls (.int y :: .int x :: st) cells slots := by
  intro p l e s m args below meth c D dA b X HH locs lsr hP hS hL
  exact lv_iand X.1 X.2.1 hd (k p l e s m args below meth c D dA b X HH locs lsr hP hS hL)
theorem ew_ior {x y : Int32} (hd : decode M.2.1 pc = .ok (.ior, 1)) (k : ex_W M d mc ms post H (pc + 1) ls (.int (x ||| y) :: st) cells slots) : ex_W M d mc ms post H pc ls (.int y :: .int x :: st) cells slots := by
  intro p l e s m args below meth c D dA b X HH locs lsr hP hS hL
  exact lv_ior X.1 X.2.1 hd (k p l e s m args below meth c D dA b X HH locs lsr hP hS hL)
theorem ew_ixor {x y : Int32} (hd : decode M.2.1 pc = .ok (.ixor, 1)) (k : ex_W M d mc ms post H (pc + 1) ls (.int (x ^^^ y) :: st) cells slots) : ex_W M d mc ms post H pc ls (.int y :: .int x :: st) cells slots := by
  intro p l e s m args below meth c D dA b X HH locs lsr hP hS hL
  exact lv_ixor X.1 X.2.1 hd (k p l e s m args below meth c D dA b X HH locs lsr hP hS hL)
theorem ew_ishl {x y : Int32} (hd : decode M.2.1 pc = .ok (.ishl, 1)) (k : ex_W M d mc ms post H (pc + 1) ls (.int (x <<< (y &&& 31)) :: st) cells slots) : ex_W M d mc ms post H pc ls (.int y :: .int x :: st) cells slots := by
  intro p l e s m args below meth c D dA b X HH locs lsr hP hS hL
  exact lv_ishl X.1 X.2.1 hd (k p l e s m args below meth c D dA b X HH locs lsr hP hS hL)
theorem ew_ishr {x y : Int32} (hd : decode M.2.1 pc = .ok (.ishr, 1)) (k : ex_W M d mc ms post H (pc + 1) ls (.int (x >>> (y &&& 31)) :: st) cells slots) : ex_W M d mc ms post H pc ls (.int y :: .int x :: st) cells slots := by
  intro p l e s m args below meth c D dA b X HH locs lsr hP hS hL
  exact lv_ishr X.1 X.2.1 hd (k p l e s m args below meth c D dA b X HH locs lsr hP hS hL)
theorem ew_idiv {x y : Int32} (hd : decode M.2.1 pc = .ok (.idiv, 1)) (hne : ¬ y = 0) (k : ex_W M d mc ms post H (pc + 1) ls (.int (x / y) :: st) cells slots) : ex_W M d mc ms post H pc ls (.int y :: .int x :: st) cells slots := by
  intro p l e s m args below meth c D dA b X HH locs lsr hP hS hL
  exact lv_idiv X.1 X.2.1 hd hne (k p l e s m args below meth c D dA b X HH locs lsr hP hS hL)
theorem ew_irem {x y : Int32} (hd : decode M.2.1 pc = .ok (.irem, 1)) (hne : ¬ y = 0) (k : ex_W M d mc ms post H (pc + 1) ls (.int (x - x / y * y) :: st) cells slots) : ex_W M d mc ms post H pc ls (.int y :: .int x :: st) cells slots := by
  intro p l e s m args below meth c D dA b X HH locs lsr hP hS hL
  exact lv_irem X.1 X.2.1 hd hne (k p l e s m args below meth c D dA b X HH locs lsr hP hS hL)
theorem ew_ineg {x : Int32} (hd : decode M.2.1 pc = .ok (.ineg, 1)) (k : ex_W M d mc ms post H (pc + 1) ls (.int (-x) :: st) cells slots) : ex_W M d mc ms post H pc ls (.int x :: st) cells slots := by
  intro p l e s m args below meth c D dA b X HH locs lsr hP hS hL
  exact lv_ineg X.1 X.2.1 hd (k p l e s m args below meth c D dA b X HH locs lsr hP hS hL)
theorem ew_ladd {x y : Int64} (hd : decode M.2.1 pc = .ok (.ladd, 1)) (k : ex_W M d mc ms post H (pc + 1) ls (.long (x + y) :: st) cells slots) : ex_W M d mc ms post H pc ls (.long y :: .long x :: st) cells slots := by
  intro p l e s m args below meth c D dA b X HH locs lsr hP hS hL
  exact lv_ladd X.1 X.2.1 hd (k p l e s m args below meth c D dA b X HH locs lsr hP hS hL)
theorem ew_lmul {x y : Int64} (hd : decode M.2.1 pc = .ok (.lmul, 1)) (k : ex_W M d mc ms post H (pc + 1) ls (.long (x * y) :: st) cells slots) : ex_W M d mc ms post H pc ls (.long y :: .long x :: st) cells slots := by
  intro p l e s m args below meth c D dA b X HH locs lsr hP hS hL
  exact lv_lmul X.1 X.2.1 hd (k p l e s m args below meth c D dA b X HH locs lsr hP hS hL)
theorem ew_lrem {x y : Int64} (hd : decode M.2.1 pc = .ok (.lrem, 1)) (hne : ¬ y = 0) (k : ex_W M d mc ms post H (pc + 1) ls (.long (x - x / y * y) :: st) cells slots) : ex_W M d mc ms post H pc ls (.long y :: .long x :: st) cells slots := by
  intro p l e s m args below meth c D dA b X HH locs lsr hP hS hL
  exact lv_lrem X.1 X.2.1 hd hne (k p l e s m args below meth c D dA b X HH locs lsr hP hS hL)
theorem ew_lcmp {x y : Int64} (hd : decode M.2.1 pc = .ok (.lcmp, 1)) (k : ex_W M d mc ms post H (pc + 1) ls (.int (lg_cmp x y) :: st) cells slots) : ex_W M d mc ms post H pc ls (.long y :: .long x :: st) cells slots := by
  intro p l e s m args below meth c D dA b X HH locs lsr hP hS hL
  exact W.lcmp X.1 X.2.1 hd (k p l e s m args below meth c D dA b X HH locs lsr hP hS hL)
theorem ew_i2l {x : Int32} (hd : decode M.2.1 pc = .ok (.i2l, 1)) (k : ex_W M d mc ms post H (pc + 1) ls (.long x.toInt64 :: st) cells slots) : ex_W M d mc ms post H pc ls (.int x :: st) cells slots := by
  intro p l e s m args below meth c D dA b X HH locs lsr hP hS hL
  exact lv_i2l X.1 X.2.1 hd rfl (k p l e s m args below meth c D dA b X HH locs lsr hP hS hL)
theorem ew_l2i {x : Int64} (hd : decode M.2.1 pc = .ok (.l2i, 1)) (k : ex_W M d mc ms post H (pc + 1) ls (.int x.toInt32 :: st) cells slots) : ex_W M d mc ms post H pc ls (.long x :: st) cells slots := by
  intro p l e s m args below meth c D dA b X HH locs lsr hP hS hL
  exact lv_l2i X.1 X.2.1 hd rfl (k p l e s m args below meth c D dA b X HH locs lsr hP hS hL)
theorem ew_dup {v : Value} (hd : decode M.2.1 pc = .ok (.dup, 1)) (hc : v.category = 1) (k : ex_W M d mc ms post H (pc + 1) ls (v :: v :: st) cells slots) : ex_W M d mc ms post H pc ls (v :: st) cells slots := by
  intro p l e s m args below meth c D dA b X HH locs lsr hP hS hL
  exact lv_dup X.1 X.2.1 hd (by rw [ex_v_cat]; exact hc) (k p l e s m args below meth c D dA b X HH locs lsr hP hS hL)
theorem ew_pop {v : Value} (hd : decode M.2.1 pc = .ok (.pop, 1)) (hc : v.category = 1) (k : ex_W M d mc ms post H (pc + 1) ls (st) cells slots) : ex_W M d mc ms post H pc ls (v :: st) cells slots := by
  intro p l e s m args below meth c D dA b X HH locs lsr hP hS hL
  exact lv_pop X.1 X.2.1 hd (by rw [ex_v_cat]; exact hc) (k p l e s m args below meth c D dA b X HH locs lsr hP hS hL)
theorem ew_dup2 {v w : Value} (hd : decode M.2.1 pc = .ok (.dup2, 1)) (hc : v.category = 1) (hc2 : w.category = 1) (k : ex_W M d mc ms post H (pc + 1) ls (v :: w :: v :: w :: st) cells slots) : ex_W M d mc ms post H pc ls (v :: w :: st) cells slots := by
  intro p l e s m args below meth c D dA b X HH locs lsr hP hS hL
  exact lv_dup2_11 X.1 X.2.1 hd (by rw [ex_v_cat]; exact hc) (by rw [ex_v_cat]; exact hc2) (k p l e s m args below meth c D dA b X HH locs lsr hP hS hL)
theorem ew_aconst_null (hd : decode M.2.1 pc = .ok (.aconst_null, 1)) (k : ex_W M d mc ms post H (pc + 1) ls (.null :: st) cells slots) : ex_W M d mc ms post H pc ls (st) cells slots := by
  intro p l e s m args below meth c D dA b X HH locs lsr hP hS hL
  exact lv_null X.1 X.2.1 hd (k p l e s m args below meth c D dA b X HH locs lsr hP hS hL)
theorem ew_goto {off : Int} {tgt : Nat} (hd : decode M.2.1 pc = .ok (.goto off, 3)) (ht : (pc : Int) + off = (tgt : Int)) (k : ex_W M d mc ms post H (tgt) ls (st) cells slots) : ex_W M d mc ms post H pc ls (st) cells slots := by
  intro p l e s m args below meth c D dA b X HH locs lsr hP hS hL
  exact lv_goto X.1 X.2.1 hd ht (k p l e s m args below meth c D dA b X HH locs lsr hP hS hL)
theorem ew_icmp_eq {x y : Int32} {off : Int} {tgt : Nat} (hd : decode M.2.1 pc = .ok (.if_icmp .eq off, 3)) (ht : (pc : Int) + off = (tgt : Int)) (kt : x = y → ex_W M d mc ms post H tgt ls st cells slots) (kf : ¬ x = y → ex_W M d mc ms post H (pc + 3) ls st cells slots) : ex_W M d mc ms post H pc ls (.int y :: .int x :: st) cells slots := by
  intro p l e s m args below meth c D dA b X HH locs lsr hP hS hL
  exact lv_icmp_eq X.1 X.2.1 hd ht (fun h => kt h p l e s m args below meth c D dA b X HH locs lsr hP hS hL) (fun h => kf h p l e s m args below meth c D dA b X HH locs lsr hP hS hL)
theorem ew_if_eq {x : Int32} {off : Int} {tgt : Nat} (hd : decode M.2.1 pc = .ok (.ifCond .eq off, 3)) (ht : (pc : Int) + off = (tgt : Int)) (kt : x = 0 → ex_W M d mc ms post H tgt ls st cells slots) (kf : ¬ x = 0 → ex_W M d mc ms post H (pc + 3) ls st cells slots) : ex_W M d mc ms post H pc ls (.int x :: st) cells slots := by
  intro p l e s m args below meth c D dA b X HH locs lsr hP hS hL
  exact lv_if_eq X.1 X.2.1 hd ht (fun h => kt h p l e s m args below meth c D dA b X HH locs lsr hP hS hL) (fun h => kf h p l e s m args below meth c D dA b X HH locs lsr hP hS hL)
theorem ew_icmp_lt {x y : Int32} {off : Int} {tgt : Nat} (hd : decode M.2.1 pc = .ok (.if_icmp .lt off, 3)) (ht : (pc : Int) + off = (tgt : Int)) (kt : x < y → ex_W M d mc ms post H tgt ls st cells slots) (kf : ¬ x < y → ex_W M d mc ms post H (pc + 3) ls st cells slots) : ex_W M d mc ms post H pc ls (.int y :: .int x :: st) cells slots := by
  intro p l e s m args below meth c D dA b X HH locs lsr hP hS hL
  exact lv_icmp_lt X.1 X.2.1 hd ht (fun h => kt h p l e s m args below meth c D dA b X HH locs lsr hP hS hL) (fun h => kf h p l e s m args below meth c D dA b X HH locs lsr hP hS hL)
theorem ew_if_lt {x : Int32} {off : Int} {tgt : Nat} (hd : decode M.2.1 pc = .ok (.ifCond .lt off, 3)) (ht : (pc : Int) + off = (tgt : Int)) (kt : x < 0 → ex_W M d mc ms post H tgt ls st cells slots) (kf : ¬ x < 0 → ex_W M d mc ms post H (pc + 3) ls st cells slots) : ex_W M d mc ms post H pc ls (.int x :: st) cells slots := by
  intro p l e s m args below meth c D dA b X HH locs lsr hP hS hL
  exact lv_if_lt X.1 X.2.1 hd ht (fun h => kt h p l e s m args below meth c D dA b X HH locs lsr hP hS hL) (fun h => kf h p l e s m args below meth c D dA b X HH locs lsr hP hS hL)
theorem ew_icmp_gt {x y : Int32} {off : Int} {tgt : Nat} (hd : decode M.2.1 pc = .ok (.if_icmp .gt off, 3)) (ht : (pc : Int) + off = (tgt : Int)) (kt : y < x → ex_W M d mc ms post H tgt ls st cells slots) (kf : ¬ y < x → ex_W M d mc ms post H (pc + 3) ls st cells slots) : ex_W M d mc ms post H pc ls (.int y :: .int x :: st) cells slots := by
  intro p l e s m args below meth c D dA b X HH locs lsr hP hS hL
  exact lv_icmp_gt X.1 X.2.1 hd ht (fun h => kt h p l e s m args below meth c D dA b X HH locs lsr hP hS hL) (fun h => kf h p l e s m args below meth c D dA b X HH locs lsr hP hS hL)
theorem ew_if_gt {x : Int32} {off : Int} {tgt : Nat} (hd : decode M.2.1 pc = .ok (.ifCond .gt off, 3)) (ht : (pc : Int) + off = (tgt : Int)) (kt : 0 < x → ex_W M d mc ms post H tgt ls st cells slots) (kf : ¬ 0 < x → ex_W M d mc ms post H (pc + 3) ls st cells slots) : ex_W M d mc ms post H pc ls (.int x :: st) cells slots := by
  intro p l e s m args below meth c D dA b X HH locs lsr hP hS hL
  exact lv_if_gt X.1 X.2.1 hd ht (fun h => kt h p l e s m args below meth c D dA b X HH locs lsr hP hS hL) (fun h => kf h p l e s m args below meth c D dA b X HH locs lsr hP hS hL)
theorem ew_icmp_le {x y : Int32} {off : Int} {tgt : Nat} (hd : decode M.2.1 pc = .ok (.if_icmp .le off, 3)) (ht : (pc : Int) + off = (tgt : Int)) (kt : x ≤ y → ex_W M d mc ms post H tgt ls st cells slots) (kf : ¬ x ≤ y → ex_W M d mc ms post H (pc + 3) ls st cells slots) : ex_W M d mc ms post H pc ls (.int y :: .int x :: st) cells slots := by
  intro p l e s m args below meth c D dA b X HH locs lsr hP hS hL
  exact lv_icmp_le X.1 X.2.1 hd ht (fun h => kt h p l e s m args below meth c D dA b X HH locs lsr hP hS hL) (fun h => kf h p l e s m args below meth c D dA b X HH locs lsr hP hS hL)
theorem ew_if_le {x : Int32} {off : Int} {tgt : Nat} (hd : decode M.2.1 pc = .ok (.ifCond .le off, 3)) (ht : (pc : Int) + off = (tgt : Int)) (kt : x ≤ 0 → ex_W M d mc ms post H tgt ls st cells slots) (kf : ¬ x ≤ 0 → ex_W M d mc ms post H (pc + 3) ls st cells slots) : ex_W M d mc ms post H pc ls (.int x :: st) cells slots := by
  intro p l e s m args below meth c D dA b X HH locs lsr hP hS hL
  exact lv_if_le X.1 X.2.1 hd ht (fun h => kt h p l e s m args below meth c D dA b X HH locs lsr hP hS hL) (fun h => kf h p l e s m args below meth c D dA b X HH locs lsr hP hS hL)
theorem ew_icmp_ge {x y : Int32} {off : Int} {tgt : Nat} (hd : decode M.2.1 pc = .ok (.if_icmp .ge off, 3)) (ht : (pc : Int) + off = (tgt : Int)) (kt : y ≤ x → ex_W M d mc ms post H tgt ls st cells slots) (kf : ¬ y ≤ x → ex_W M d mc ms post H (pc + 3) ls st cells slots) : ex_W M d mc ms post H pc ls (.int y :: .int x :: st) cells slots := by
  intro p l e s m args below meth c D dA b X HH locs lsr hP hS hL
  exact lv_icmp_ge X.1 X.2.1 hd ht (fun h => kt h p l e s m args below meth c D dA b X HH locs lsr hP hS hL) (fun h => kf h p l e s m args below meth c D dA b X HH locs lsr hP hS hL)
theorem ew_if_ge {x : Int32} {off : Int} {tgt : Nat} (hd : decode M.2.1 pc = .ok (.ifCond .ge off, 3)) (ht : (pc : Int) + off = (tgt : Int)) (kt : 0 ≤ x → ex_W M d mc ms post H tgt ls st cells slots) (kf : ¬ 0 ≤ x → ex_W M d mc ms post H (pc + 3) ls st cells slots) : ex_W M d mc ms post H pc ls (.int x :: st) cells slots := by
  intro p l e s m args below meth c D dA b X HH locs lsr hP hS hL
  exact lv_if_ge X.1 X.2.1 hd ht (fun h => kt h p l e s m args below meth c D dA b X HH locs lsr hP hS hL) (fun h => kf h p l e s m args below meth c D dA b X HH locs lsr hP hS hL)
theorem ew_icmp_ne {x y : Int32} {off : Int} {tgt : Nat} (hd : decode M.2.1 pc = .ok (.if_icmp .ne off, 3)) (ht : (pc : Int) + off = (tgt : Int)) (kt : ¬ x = y → ex_W M d mc ms post H tgt ls st cells slots) (kf : x = y → ex_W M d mc ms post H (pc + 3) ls st cells slots) : ex_W M d mc ms post H pc ls (.int y :: .int x :: st) cells slots := by
  intro p l e s m args below meth c D dA b X HH locs lsr hP hS hL
  exact lv_icmp_ne X.1 X.2.1 hd ht (fun h => kt h p l e s m args below meth c D dA b X HH locs lsr hP hS hL) (fun h => kf h p l e s m args below meth c D dA b X HH locs lsr hP hS hL)
theorem ew_if_ne {x : Int32} {off : Int} {tgt : Nat} (hd : decode M.2.1 pc = .ok (.ifCond .ne off, 3)) (ht : (pc : Int) + off = (tgt : Int)) (kt : ¬ x = 0 → ex_W M d mc ms post H tgt ls st cells slots) (kf : x = 0 → ex_W M d mc ms post H (pc + 3) ls st cells slots) : ex_W M d mc ms post H pc ls (.int x :: st) cells slots := by
  intro p l e s m args below meth c D dA b X HH locs lsr hP hS hL
  exact lv_if_ne X.1 X.2.1 hd ht (fun h => kt h p l e s m args below meth c D dA b X HH locs lsr hP hS hL) (fun h => kf h p l e s m args below meth c D dA b X HH locs lsr hP hS hL)
theorem ew_ifnull {off : Int} {tgt : Nat} {v : Option Nat} (hd : decode M.2.1 pc = .ok (.ifnull off, 3)) (ht : (pc : Int) + off = (tgt : Int)) (kt : v = none → ex_W M d mc ms post H tgt ls st cells slots) (kf : ∀ a, v = some a → ex_W M d mc ms post H (pc + 3) ls st cells slots) : ex_W M d mc ms post H pc ls (va_rf v :: st) cells slots := by
  intro p l e s m args below meth c D dA b X HH locs lsr hP hS hL
  cases v with
  | none => exact lv_ifnullN X.1 X.2.1 hd ht (kt rfl p l e s m args below meth c D dA b X HH locs lsr hP hS hL)
  | some a => exact lv_ifnull X.1 X.2.1 hd (kf a rfl p l e s m args below meth c D dA b X HH locs lsr hP hS hL)
theorem ew_ifnonnull {off : Int} {tgt : Nat} {v : Option Nat} (hd : decode M.2.1 pc = .ok (.ifnonnull off, 3)) (ht : (pc : Int) + off = (tgt : Int)) (kt : ∀ a, v = some a → ex_W M d mc ms post H tgt ls st cells slots) (kf : v = none → ex_W M d mc ms post H (pc + 3) ls st cells slots) : ex_W M d mc ms post H pc ls (va_rf v :: st) cells slots := by
  intro p l e s m args below meth c D dA b X HH locs lsr hP hS hL
  cases v with
  | none => exact lv_ifnonnullN X.1 X.2.1 hd (kf rfl p l e s m args below meth c D dA b X HH locs lsr hP hS hL)
  | some a => exact lv_ifnonnull X.1 X.2.1 hd ht (kt a rfl p l e s m args below meth c D dA b X HH locs lsr hP hS hL)
theorem ew_tableIn {dflt lo hi : Int} {offs : Array Int} {len : Nat} {x : Int32} {off : Int} {tgt : Nat} (hd : decode M.2.1 pc = .ok (.tableswitch dflt lo hi offs, len)) (h1 : ¬ x.toInt < lo) (h2 : ¬ hi < x.toInt) (ho : offs[(x.toInt - lo).toNat]? = some off) (ht : (pc : Int) + off = (tgt : Int)) (k : ex_W M d mc ms post H tgt ls st cells slots) : ex_W M d mc ms post H pc ls (.int x :: st) cells slots := by
  intro p l e s m args below meth c D dA b X HH locs lsr hP hS hL
  exact lv_tableIn X.1 X.2.1 hd h1 h2 ho ht (k p l e s m args below meth c D dA b X HH locs lsr hP hS hL)
theorem ew_tableOut {dflt lo hi : Int} {offs : Array Int} {len : Nat} {x : Int32} {tgt : Nat} (hd : decode M.2.1 pc = .ok (.tableswitch dflt lo hi offs, len)) (h : x.toInt < lo ∨ hi < x.toInt) (ht : (pc : Int) + dflt = (tgt : Int)) (k : ex_W M d mc ms post H tgt ls st cells slots) : ex_W M d mc ms post H pc ls (.int x :: st) cells slots := by
  intro p l e s m args below meth c D dA b X HH locs lsr hP hS hL
  exact lv_tableOut X.1 X.2.1 hd h ht (k p l e s m args below meth c D dA b X HH locs lsr hP hS hL)
theorem ew_lookup {dflt : Int} {ps : Array (Int × Int)} {len : Nat} {x : Int32} {off : Int} {tgt : Nat} (hd : decode M.2.1 pc = .ok (.lookupswitch dflt ps, len)) (hp : (ps.toList.zip (ps.toList.drop 1)).all (fun (a, next) => a.1 < next.1) = true) (ho : Op.lookupswitch.offset ps.toList dflt x.toInt = off) (ht : (pc : Int) + off = (tgt : Int)) (k : ex_W M d mc ms post H tgt ls st cells slots) : ex_W M d mc ms post H pc ls (.int x :: st) cells slots := by
  intro p l e s m args below meth c D dA b X HH locs lsr hP hS hL
  exact lv_lookup X.1 X.2.1 hd hp ho ht (k p l e s m args below meth c D dA b X HH locs lsr hP hS hL)
/-- a field, by the class's number and the field's place -/
def ex_F (own : String) (idx ci j : Nat) (ty : FieldType) (fin : Bool) : Prop := ∃ (C : String) (T : u_T) (N : Nat) (t0 : Nat → FieldType), vwCl[ci]? = some (C, T, N) ∧ j < N ∧ (∀ w ∈ u_ws C T N, w ∈ ex_g) ∧ (∀ k, k < N → parseFieldDescriptor (T k).2.2.1 = some (t0 k)) ∧ (∀ a, a < N → ∀ b, b < N → a ≠ b → (T a).2.1 ≠ (T b).2.1) ∧ t0 j = ty ∧ (T j).2.2.2 = fin ∧ (T j).1 = C ∧ Cond.fieldLink own idx (T j).1 (T j).2.1 (T j).2.2.1 ∈ ex_g
theorem ew_get {idx ci j a : Nat} {ty : FieldType} {fin : Bool} {fs : List Value} {v : Value} (hd : decode M.2.1 pc = .ok (.getfield idx, 3)) (hF : ex_F M.1.cls idx ci j ty fin) (hH : H[a]? = some (ob ci fs)) (hv : fs[j]? = some v) (k : ex_W M d mc ms post H (pc + 3) ls (v :: st) cells slots) : ex_W M d mc ms post H pc ls (.ref a :: st) cells slots := by
  intro p l e s m args below meth c D dA b X HH locs lsr hP hS hL
  obtain ⟨C, T, N, t0, h1, h2, h3, h4, h5, h6, h7, h8, h9⟩ := hF
  refine va_get (D := D) (cl := vwCl) (ws := [(b.1 + a, .inr (ci, fs.map (ex_v b)))]) X.1 X.2.1 X.2.2.2.2.2.2.2.1 h3 X.2.2.2.2.2.1 X.2.2.2.2.2.2.2.2.1.1 (fun q0 q hq => ?_) 0 rfl h1 j h2 (X.2.2.2.2.2.2.2.1 _ h9) (fun _ h => h) (v := ex_v b v) (by rw [List.getElem?_map, hv]; rfl) hd (k p l e s m args below meth c D dA b X HH locs lsr hP hS hL)
  cases q0 with
  | zero => cases hq; exact hP.2 a _ hH
  | succ q0 => simp at hq
theorem ex_fit {ty : FieldType} {v : Value} (b : ex_B) (h : narrow ty v = v ∧ fits ty v = true ∧ ∀ a, v ≠ .retAddr a) : narrow ty (ex_v b v) = ex_v b v ∧ fits ty (ex_v b v) = true := by
  cases v with
  | ref a => exact ⟨by cases ty <;> rfl, by have := h.2.1; cases ty <;> first | rfl | (simp [fits] at this)⟩
  | retAddr a => exact absurd rfl (h.2.2 a)
  | _ => exact ⟨h.1, h.2.1⟩
theorem ew_put {idx ci j a : Nat} {ty : FieldType} {fs : List Value} {v : Value} (hd : decode M.2.1 pc = .ok (.putfield idx, 3)) (hF : ex_F M.1.cls idx ci j ty false) (hH : H[a]? = some (ob ci fs)) (hl : j < fs.length) (hv : narrow ty v = v ∧ fits ty v = true ∧ ∀ a, v ≠ .retAddr a) (k : ex_W M d mc ms post (H.set a (ob ci (fs.set j v))) (pc + 3) ls st cells slots) : ex_W M d mc ms post H pc ls (v :: .ref a :: st) cells slots := by
  intro p l e s m args below meth c D dA b X HH locs lsr hP hS hL
  obtain ⟨C, T, N, t0, h1, h2, h3, h4, h5, h6, h7, h8, h9⟩ := hF
  have hts := X.2.2.2.2.2.2.2.1
  have hK := X.2.2.2.2.2.2.2.2.1.1
  have hown := X.2.2.2.2.2.1
  have hap := va_apart (own := M.1.cls) hts h3 t0 h4 h5 hK h1
  obtain ⟨r, g1, cell, q1, q2, q3, q4⟩ := hP.2 a _ hH
  have hr : r = (C, T, N) := Option.some.inj (g1.symm.trans h1)
  subst hr
  obtain ⟨hS1, hfc, kC, hkC, hkind⟩ := hK.1 ci _ h1
  obtain ⟨cf, kf, fi, f, hi, hsl⟩ := hS1 j h2
  have hlay := hts _ (h3 _ (u_in_lay h2))
  unfold u_lay at hlay
  rw [if_neg (by rw [h7]; decide)] at hlay
  have hst := (u_facts hfc hkC (u_lays hts h3 h2) hi).1
  obtain ⟨v1, v2⟩ := ex_fit b hv
  have hp6 : parseFieldDescriptor (T j).2.2.1 = some ty := by rw [← h6]; exact h4 j h2
  have g6 := u_store hfc hkC hkind hlay hi hp6 v1 v2
  refine W.putK X.1 X.2.1 (f := f) ⟨hown, hts _ h9, ⟨_, _, _, hi⟩, hst⟩ (by rw [q2]; exact g6) q1 q3 (by rw [hsl]; exact k2_hasslot (q4 j h2)) rfl rfl hd fun H1 e1 e2 e3 => ?_
  rw [hsl] at e1 ⊢
  refine k p l e s m args below meth c D dA b X H1 _ lsr (hP.set hH e2 e3 ?_) (hS.put e2 e3 (Nat.le_add_right _ _)) hL
  refine ⟨_, h1, t_OB.to (V := updV (vp_V (fs.map (ex_v b))) j (ex_v b v)) ⟨_, e1, q2, q3, t_set q4 hap h2 (ex_v b v)⟩ (fun i _ => ?_)⟩
  rw [vp_updV_set (by rw [List.length_map]; exact hl), List.map_set]
theorem ew_putF {idx ci j a : Nat} {ty : FieldType} {fs : List Value} {v : Value} (hd : decode M.2.1 pc = .ok (.putfield idx, 3)) (hF : ex_F M.1.cls idx ci j ty true) (hin : M.1.name = "<init>") (hC : (vwCl[ci]?).map (fun q => q.1) = some M.1.cls) (hH : H[a]? = some (ob ci fs)) (hl : j < fs.length) (hv : narrow ty v = v ∧ fits ty v = true ∧ ∀ a, v ≠ .retAddr a) (k : ex_W M d mc ms post (H.set a (ob ci (fs.set j v))) (pc + 3) ls st cells slots) : ex_W M d mc ms post H pc ls (v :: .ref a :: st) cells slots := by
  intro p l e s m args below meth c D dA b X HH locs lsr hP hS hL
  obtain ⟨C, T, N, t0, h1, h2, h3, h4, h5, h6, h7, h8, h9⟩ := hF
  have hts := X.2.2.2.2.2.2.2.1
  have hK := X.2.2.2.2.2.2.2.2.1.1
  have hown := X.2.2.2.2.2.1
  have hap := va_apart (own := M.1.cls) hts h3 t0 h4 h5 hK h1
  obtain ⟨r, g1, cell, q1, q2, q3, q4⟩ := hP.2 a _ hH
  have hr : r = (C, T, N) := Option.some.inj (g1.symm.trans h1)
  subst hr
  obtain ⟨hS1, hfc, kC, hkC, hkind⟩ := hK.1 ci _ h1
  obtain ⟨cf, kf, fi, f, hi, hsl⟩ := hS1 j h2
  have hlay := hts _ (h3 _ (u_in_lay h2))
  unfold u_lay at hlay
  rw [if_pos h7] at hlay
  have hst := (u_facts hfc hkC (u_lays hts h3 h2) hi).1
  have hdecl : (T j).1 = M.1.cls := by
    rw [h1] at hC
    rw [h8]
    exact Option.some.inj hC
  have hcf : m.cls = cf := by
    obtain ⟨_, _, c', _, _, _, -, -, hf', -, -, -, hown2, -⟩ := Cond.laysFinal_spec hlay
    have e1 : c' = cf := by have := hi.symm.trans hf'; simp at this; exact this.1.symm
    rw [hdecl] at hown2
    rw [← e1]; exact Option.some.inj (hown.symm.trans hown2)
  obtain ⟨v1, v2⟩ := ex_fit b hv
  have hp6 : parseFieldDescriptor (T j).2.2.1 = some ty := by rw [← h6]; exact h4 j h2
  have g6 := u_fits hfc hkC hkind (Or.inr hlay) hi hp6 v1 v2
  refine W.putFinK X.1 X.2.1 hown (hts _ h9) hi hst hcf (X.2.2.2.2.2.2.1.trans hin) (by rw [q2]; exact g6) q1 q3 (by rw [hsl]; exact k2_hasslot (q4 j h2)) rfl rfl hd fun H1 e1 e2 e3 => ?_
  rw [hsl] at e1 ⊢
  refine k p l e s m args below meth c D dA b X H1 _ lsr (hP.set hH e2 e3 ?_) (hS.put e2 e3 (Nat.le_add_right _ _)) hL
  refine ⟨_, h1, t_OB.to (V := updV (vp_V (fs.map (ex_v b))) j (ex_v b v)) ⟨_, e1, q2, q3, t_set q4 hap h2 (ex_v b v)⟩ (fun i _ => ?_)⟩
  rw [vp_updV_set (by rw [List.length_map]; exact hl), List.map_set]
/-- an index: the number j, below n -/
def ex_ix (i : Int32) (n j : Nat) : Prop := i = nI j ∧ j < n ∧ n < 2 ^ 31
theorem ex_ix.in {i : Int32} {n j : Nat} (h : ex_ix i n j) : vp_in i n := by rw [h.1]; exact vp_in_nI h.2.1 h.2.2
theorem ex_ix.at {i : Int32} {n j : Nat} (h : ex_ix i n j) : i.toNatClampNeg = j := by rw [h.1]; exact nI_clamp (Nat.lt_trans h.2.1 h.2.2)
theorem ew_iald {a n : Nat} {f : Nat → Int32} {i : Int32} (j : Nat) (hd : decode M.2.1 pc = .ok (.iaload, 1)) (hH : H[a]? = some (ar .int n f)) (hi : ex_ix i n j) (k : ex_W M d mc ms post H (pc + 1) ls (.int (f j) :: st) cells slots) : ex_W M d mc ms post H pc ls (.int i :: .ref a :: st) cells slots := by
  intro p l e s m args below meth c D dA b X HH locs lsr hP hS hL
  have hk := k p l e s m args below meth c D dA b X HH locs lsr hP hS hL
  have e0 := hi.at
  subst e0
  exact va_iald (D := D) (cl := vwCl) (ws := [(b.1 + a, .inl (dA .int, n, .inl f))]) X.1 X.2.1 X.2.2.2.2.2.2.2.2.1.1 (fun q0 q hq => by
    cases q0 with
    | zero => cases hq; exact hP.2 a _ hH
    | succ q0 => simp at hq) 0 0 rfl rfl hi.in hd hk
theorem ew_zald {a n : Nat} {f : Nat → Int32} {i : Int32} (j : Nat) (hd : decode M.2.1 pc = .ok (.baload, 1)) (hH : H[a]? = some (ar .boolean n f)) (hi : ex_ix i n j) (k : ex_W M d mc ms post H (pc + 1) ls (.int (f j) :: st) cells slots) : ex_W M d mc ms post H pc ls (.int i :: .ref a :: st) cells slots := by
  intro p l e s m args below meth c D dA b X HH locs lsr hP hS hL
  have hk := k p l e s m args below meth c D dA b X HH locs lsr hP hS hL
  have e0 := hi.at
  subst e0
  exact va_zald (D := D) (cl := vwCl) (ws := [(b.1 + a, .inl (dA .boolean, n, .inl f))]) X.1 X.2.1 X.2.2.2.2.2.2.2.2.1.1 (fun q0 q hq => by
    cases q0 with
    | zero => cases hq; exact hP.2 a _ hH
    | succ q0 => simp at hq) 0 1 rfl rfl hi.in hd hk
theorem ew_iast {a n : Nat} {f : Nat → Int32} {i x : Int32} (j : Nat) (hd : decode M.2.1 pc = .ok (.iastore, 1)) (hH : H[a]? = some (ar .int n f)) (hi : ex_ix i n j) (k : ex_W M d mc ms post (H.set a (ar .int n (upd f j x))) (pc + 1) ls st cells slots) : ex_W M d mc ms post H pc ls (.int x :: .int i :: .ref a :: st) cells slots := by
  intro p l e s m args below meth c D dA b X HH locs lsr hP hS hL
  have hin := hi.in
  have e0 := hi.at
  subst e0
  refine W.iast X.1 X.2.1 (hP.2 a _ hH) ((X.2.2.2.2.2.2.2.2.1.1.2 0 _ rfl).1 n (fun j => .int (f j))) (fun q => by cases q) (by show ¬ (i < 0 ∨ (arrV _ _ _).slots.size ≤ _); rw [arrV_size]; exact hin) rfl rfl hd fun H1 e z oq => ?_
  refine k p l _ s m args below meth c D dA b X H1 _ lsr (hP.set hH z oq ?_) (hS.put z oq (Nat.le_add_right _ _)) hL
  show H1[b.1 + a]? = some (vp_cell _ _)
  rw [e]
  show some ((vp_cell (dA .int) (n, .inl f)).setSlot _ _) = some (vp_cell (dA .int) (n, .inl (upd f _ x)))
  rw [vp_cell_i, vp_cell_i, arrV_store]
  congr 2
  funext q
  by_cases hq : q = i.toNatClampNeg
  · subst hq
    simp [updV, upd]
  · simp [updV, upd, hq]
theorem ew_zast {a n : Nat} {f : Nat → Int32} {i x : Int32} (j : Nat) (hd : decode M.2.1 pc = .ok (.bastore, 1)) (hH : H[a]? = some (ar .boolean n f)) (hi : ex_ix i n j) (hx : x &&& 1 = x) (k : ex_W M d mc ms post (H.set a (ar .boolean n (upd f j x))) (pc + 1) ls st cells slots) : ex_W M d mc ms post H pc ls (.int x :: .int i :: .ref a :: st) cells slots := by
  intro p l e s m args below meth c D dA b X HH locs lsr hP hS hL
  have hin := hi.in
  have e0 := hi.at
  subst e0
  refine W.zast X.1 X.2.1 (hP.2 a _ hH) ((X.2.2.2.2.2.2.2.2.1.1.2 1 _ rfl).1 n (fun j => .int (f j))) (fun q => by cases q) (by show ¬ (i < 0 ∨ (arrV _ _ _).slots.size ≤ _); rw [arrV_size]; exact hin) rfl rfl hd fun H1 e z oq => ?_
  refine k p l _ s m args below meth c D dA b X H1 _ lsr (hP.set hH z oq ?_) (hS.put z oq (Nat.le_add_right _ _)) hL
  show H1[b.1 + a]? = some (vp_cell _ _)
  rw [e]
  show some ((vp_cell (dA .boolean) (n, .inl f)).setSlot _ (.int (x &&& 1))) = some (vp_cell (dA .boolean) (n, .inl (upd f _ x)))
  rw [hx, vp_cell_i, vp_cell_i, arrV_store]
  congr 2
  funext q
  by_cases hq : q = i.toNatClampNeg
  · subst hq
    simp [updV, upd]
  · simp [updV, upd, hq]
theorem ex_v_rf (b : ex_B) (r : Option Nat) : ex_v b (va_rf r) = va_rf (r.map (fun k => b.1 + k)) := by cases r <;> rfl
/-- the place of an array class of references in ex_tys -/
def ex_rt (C : String) (t0 : Nat) : Prop := ∀ dA : FieldType → ClassId, (ex_tys dA)[t0]? = some (dA (.object C), .object C)
theorem ew_aald {a n t0 : Nat} {C : String} {f : Nat → Option Nat} {i : Int32} (j : Nat) (hd : decode M.2.1 pc = .ok (.aaload, 1)) (hH : H[a]? = some (rr C n f)) (hC : ex_rt C t0) (hi : ex_ix i n j) (k : ex_W M d mc ms post H (pc + 1) ls (va_rf (f j) :: st) cells slots) : ex_W M d mc ms post H pc ls (.int i :: .ref a :: st) cells slots := by
  intro p l e s m args below meth c D dA b X HH locs lsr hP hS hL
  have hk := k p l e s m args below meth c D dA b X HH locs lsr hP hS hL
  have e0 := hi.at
  subst e0
  rw [List.map_cons, ex_v_rf] at hk
  exact va_aldq (D := D) (cl := vwCl) (ws := [(b.1 + a, .inl (dA (.object C), n, .inr (.inr (.inr (.inr (fun j => (f j).map (fun k => b.1 + k)))))))]) X.1 X.2.1 X.2.2.2.2.2.2.2.2.1.1 (fun q0 q hq => by
    cases q0 with
    | zero => cases hq; exact hP.2 a _ hH
    | succ q0 => simp at hq) 0 t0 rfl (hC dA) hi.in hd hk
theorem ew_aast {a n t0 v ci : Nat} {C : String} {f : Nat → Option Nat} {i : Int32} {vs : List Value} (j : Nat) (hd : decode M.2.1 pc = .ok (.aastore, 1)) (hH : H[a]? = some (rr C n f)) (hC : ex_rt C t0) (hV : H[v]? = some (ob ci vs)) (hc : (vwCl[ci]?).map (fun q => q.1) = some C) (hi : ex_ix i n j) (k : ex_W M d mc ms post (H.set a (rr C n (va_up f j (some v)))) (pc + 1) ls st cells slots) : ex_W M d mc ms post H pc ls (.ref v :: .int i :: .ref a :: st) cells slots := by
  intro p l e s m args below meth c D dA b X HH locs lsr hP hS hL
  have hin := hi.in
  have e0 := hi.at
  subst e0
  have hK := X.2.2.2.2.2.2.2.2.1.1
  have hlt : i.toNatClampNeg < n := Nat.not_le.mp fun q => hin (Or.inr q)
  have h0 : ¬ i < 0 := fun q => hin (Or.inl q)
  obtain ⟨r, hr⟩ : ∃ r, vwCl[ci]? = some r := by
    cases h : vwCl[ci]? with
    | none => rw [h] at hc; cases hc
    | some r => exact ⟨r, rfl⟩
  have hrC : r.1 = C := by rw [hr] at hc; exact Option.some.inj hc
  obtain ⟨r', hr', cellV, g1, g2, g3, -⟩ := hP.2 v _ hV
  have hcls := (hK.1 ci r hr).2
  obtain ⟨kA, comp, k1, k2, k3, -⟩ := (hK.2 t0 _ (hC dA)).2
  have hcomp : comp = D.1 ci := Option.some.inj (k3.symm.trans (by rw [← hrC]; exact hcls.1))
  subst hcomp
  obtain ⟨kC, hkC, -⟩ := hcls.2
  refine W.aast X.1 X.2.1 (hP.2 a _ hH) (fun q h => by cases h) (fun h => by cases h) k1 k2 rfl hkC ⟨h0, by show _ < (arrV _ _ _).slots.size; rw [arrV_size]; exact hlt⟩ g1 (fun q h => by rw [g3] at h; cases h) (by rw [g2]; exact hkC) (by rw [g2]; exact va_assign hcls) rfl rfl hd fun H1 e z oq => ?_
  refine k p l _ s m args below meth c D dA b X H1 _ lsr (hP.set hH z oq ?_) (hS.put z oq (Nat.le_add_right _ _)) hL
  show H1[b.1 + a]? = some (vp_cell _ _)
  rw [e]
  show some ((vp_cell (dA (.object C)) (n, .inr (.inr (.inr (.inr (fun j => (f j).map (fun k => b.1 + k))))))).setSlot _ _) = some (vp_cell (dA (.object C)) (n, .inr (.inr (.inr (.inr (fun j => (va_up f _ (some v) j).map (fun k => b.1 + k)))))))
  rw [vp_cell_q, vp_cell_q, arrV_store]
  congr 2
  funext q
  by_cases hq : q = i.toNatClampNeg
  · subst hq
    simp [updV, va_up, va_rf]
  · simp [updV, va_up, hq]
theorem ew_alen {a n : Nat} {ty : FieldType} {t0 : Nat} {f : Nat → Int32} (hd : decode M.2.1 pc = .ok (.arraylength, 1)) (hH : H[a]? = some (ar ty n f)) (ht : ∀ dA : FieldType → ClassId, (ex_tys dA)[t0]? = some (dA ty, ty)) (k : ex_W M d mc ms post H (pc + 1) ls (.int (nI n) :: st) cells slots) : ex_W M d mc ms post H pc ls (.ref a :: st) cells slots := by
  intro p l e s m args below meth c D dA b X HH locs lsr hP hS hL
  exact va_alen (D := D) (cl := vwCl) (ws := [(b.1 + a, .inl (dA ty, n, .inl f))]) X.1 X.2.1 X.2.2.2.2.2.2.2.2.1.1 (fun q0 q hq => by
    cases q0 with
    | zero => cases hq; exact hP.2 a _ hH
    | succ q0 => simp at hq) 0 t0 rfl (ht dA) rfl hd (k p l e s m args below meth c D dA b X HH locs lsr hP hS hL)
/-- the script -/
theorem ew_sld {a L : Nat} {xs : Nat → Int32} {i : Int32} (j : Nat) (hd : decode M.2.1 pc = .ok (.iaload, 1)) (hM : M.2.2.2.2 = some (L, xs)) (hi : ex_ix i L j) (k : ex_W M d mc ms post H (pc + 1) ls (.int (xs j) :: st) cells slots) : ex_W M d mc ms post H pc ls (.int i :: .retAddr a :: st) cells slots := by
  intro p l e s m args below meth c D dA b X HH locs lsr hP hS hL
  have hk := k p l e s m args below meth c D dA b X HH locs lsr hP hS hL
  have e0 := hi.at
  subst e0
  obtain ⟨x1, x2, x3⟩ := X.2.2.2.2.2.2.2.2.2 L xs hM
  exact va_sld X.1 X.2.1 x1 x2 (Nat.not_le.mpr x3) hS hi.in hd hk
theorem ew_slen {a L : Nat} {xs : Nat → Int32} (hd : decode M.2.1 pc = .ok (.arraylength, 1)) (hM : M.2.2.2.2 = some (L, xs)) (k : ex_W M d mc ms post H (pc + 1) ls (.int (nI L) :: st) cells slots) : ex_W M d mc ms post H pc ls (.retAddr a :: st) cells slots := by
  intro p l e s m args below meth c D dA b X HH locs lsr hP hS hL
  obtain ⟨x1, x2, x3⟩ := X.2.2.2.2.2.2.2.2.2 L xs hM
  exact va_slen X.1 X.2.1 x1 x2 (Nat.not_le.mpr x3) hS hd (k p l e s m args below meth c D dA b X HH locs lsr hP hS hL)

/-- a class that is made: its number, its size, its fields at first -/
def ex_N (own : String) (idx ci N : Nat) (fs : List Value) : Prop := ∃ (C : String) (T : u_T) (t0 : Nat → FieldType), vwCl[ci]? = some (C, T, N) ∧ (∀ w ∈ u_ws C T N, w ∈ ex_g) ∧ (∀ k, k < N → parseFieldDescriptor (T k).2.2.1 = some (t0 k)) ∧ Cond.classLink own idx C ∈ ex_g ∧ Cond.instantiable C N ∈ ex_g ∧ Cond.initialized C ∈ ex_g ∧ (∀ (b : ex_B) (j : Nat), j < N → defaultValue (t0 j) = vp_V (fs.map (ex_v b)) j)
theorem ew_new {idx ci N : Nat} {fs : List Value} (hd : decode M.2.1 pc = .ok (.new idx, 3)) (hN : ex_N M.1.cls idx ci N fs) (hc : cells + 1 ≤ mc) (hs : slots + N ≤ ms) (k : ex_W M d mc ms post (H ++ [ob ci fs]) (pc + 3) ls (.ref H.length :: st) (cells + 1) (slots + N)) : ex_W M d mc ms post H pc ls st cells slots := by
  intro p l e s m args below meth c D dA b X HH locs lsr hP hS hL
  obtain ⟨C, T, t0, h1, h2, h3, h4, h5, h6, h7⟩ := hN
  have hts := X.2.2.2.2.2.2.2.1
  have hKn := X.2.2.2.2.2.2.2.2.1.1.1 ci _ h1
  refine W.newcK X.1 X.2.1 X.2.2.2.2.2.1 (hts _ h4) (hts _ h5) (hts _ h6) rfl hd hc hs hKn.2.1 rfl fun H1 kC hkC e1 z1 o1 => ?_
  have e2 : HH.size = b.1 + H.length := hP.1
  have hk := k p l e s m args below meth c D dA b X H1 locs lsr (hP.push z1 o1 ?_) ⟨Nat.le_trans hS.1 (by omega), fun x g1 g2 => (o1 x (Nat.lt_of_lt_of_le g1 hS.1)).trans (hS.2.1 x g1 g2), hS.2.2⟩ hL
  · have e3 : F0 m (pc + 3) lsr ((Value.ref H.length :: st).map (ex_v b)) = F0 m (pc + 3) lsr (.ref HH.size :: st.map (ex_v b)) := by rw [e2]; rfl
    rw [e3] at hk
    exact hk
  · rw [← e2]
    exact ⟨_, h1, (u_born t0 hts h2 hKn hkC e1 h3).to (h7 b)⟩
theorem ew_newa {atype : ArrayType} {ty : FieldType} {n : Int32} {N t0 : Nat} (hd : decode M.2.1 pc = .ok (.newarray atype, 2)) (hty : newarray.typeOf atype = ty) (hw : Cond.arrayClass ty ∈ ex_g) (ht : ∀ dA : FieldType → ClassId, (ex_tys dA)[t0]? = some (dA ty, ty)) (hr : ∀ C, ty ≠ .object C) (hdv : defaultValue ty = .int 0) (hn : ¬ n < 0) (hN : n.toNatClampNeg = N) (hbytes : N * componentBytes ty ≤ 536870912) (hc : cells + 1 ≤ mc) (hs : slots + N ≤ ms) (k : ex_W M d mc ms post (H ++ [ar ty N (fun _ => 0)]) (pc + 2) ls (.ref H.length :: st) (cells + 1) (slots + N)) : ex_W M d mc ms post H pc ls (.int n :: st) cells slots := by
  intro p l e s m args below meth c D dA b X HH locs lsr hP hS hL
  subst hty
  have hts := X.2.2.2.2.2.2.2.1
  refine va_newaK X.1 X.2.1 (hts _ hw) rfl hd rfl hn hN hbytes hc hs rfl fun H1 cA e1 z1 o1 hAr hNm => ?_
  have hA : cA = dA (newarray.typeOf atype) := by
    have h := (X.2.2.2.2.2.2.2.2.1.1.2 t0 _ (ht dA)).2
    generalize newarray.typeOf atype = ty at h hNm hr
    cases ty with
    | object C => exact absurd rfl (hr C)
    | _ => exact Option.some.inj (hNm.symm.trans h)
  have e2 : HH.size = b.1 + H.length := hP.1
  have hk := k p l e s m args below meth c D dA b X H1 locs lsr (hP.push z1 o1 ?_) ⟨Nat.le_trans hS.1 (by omega), fun x g1 g2 => (o1 x (Nat.lt_of_lt_of_le g1 hS.1)).trans (hS.2.1 x g1 g2), hS.2.2⟩ hL
  · have e3 : F0 m (pc + 2) lsr ((Value.ref H.length :: st).map (ex_v b)) = F0 m (pc + 2) lsr (.ref HH.size :: st.map (ex_v b)) := by rw [e2]; rfl
    rw [e3] at hk
    exact hk
  · rw [← e2]
    show H1[HH.size]? = some (vp_cell (dA (newarray.typeOf atype)) (N, .inl (fun _ => 0)))
    rw [e1, hA, hdv]
    rfl
theorem ew_anew {idx N t0 : Nat} {C : String} {n : Int32} (hd : decode M.2.1 pc = .ok (.anewarray idx, 3)) (hcl : Cond.classLink M.1.cls idx C ∈ ex_g) (hov : Cond.arrayOver (.object C) ∈ lw_tbl) (hC : ex_rt C t0) (hn : ¬ n < 0) (hN : n.toNatClampNeg = N) (hbytes : N * 4 ≤ 536870912) (hc : cells + 1 ≤ mc) (hs : slots + N ≤ ms) (k : ex_W M d mc ms post (H ++ [rr C N (fun _ => none)]) (pc + 3) ls (.ref H.length :: st) (cells + 1) (slots + N)) : ex_W M d mc ms post H pc ls (.int n :: st) cells slots := by
  intro p l e s m args below meth c D dA b X HH locs lsr hP hS hL
  have hts := X.2.2.2.2.2.2.2.1
  subst hN
  refine W.anew X.1 X.2.1 X.2.2.2.2.2.1 (hts _ hcl) (X.2.2.2.2.2.2.2.2.1.2.2 C hov).use rfl hd rfl hn hbytes hc hs fun cA kA comp f1 f2 f3 f4 => ?_
  have hA : cA = dA (.object C) := by
    obtain ⟨kA', comp', -, -, -, h4⟩ := (X.2.2.2.2.2.2.2.2.1.1.2 t0 _ (hC dA)).2
    exact Option.some.inj (f1.symm.trans h4)
  have e2 : HH.size = b.1 + H.length := hP.1
  have hk := k p l e s m args below meth c D dA b X (HH.push { cls := cA, slots := Array.replicate n.toNatClampNeg .null, vm := .none }) locs lsr (hP.push (by simp) (fun q hq => by rw [Array.getElem?_push, if_neg (Nat.ne_of_lt hq)]) ?_) ⟨Nat.le_trans hS.1 (by simp), fun x g1 g2 => by
    have hx : x < HH.size := Nat.lt_of_lt_of_le g1 hS.1
    rw [Array.getElem?_push, if_neg (Nat.ne_of_lt hx)]
    exact hS.2.1 x g1 g2, hS.2.2⟩ hL
  · have e3 : F0 m (pc + 3) lsr ((Value.ref H.length :: st).map (ex_v b)) = F0 m (pc + 3) lsr (.ref HH.size :: st.map (ex_v b)) := by rw [e2]; rfl
    rw [e3] at hk
    exact hk
  · rw [← e2]
    show (HH.push _)[HH.size]? = some (vp_cell (dA (.object C)) (n.toNatClampNeg, .inr (.inr (.inr (.inr (fun _ => none))))))
    rw [arrV_new, ← hA]
    simp
    rfl
theorem ew_objInit {idx a : Nat} (hd : decode M.2.1 pc = .ok (.invokespecial idx, 3)) (h1 : Cond.methodLink M.1.cls idx Lib.objectInit ∈ ex_g) (h2 : Cond.instanceMethod Lib.objectInit ∈ ex_g) (h3 : Cond.code Lib.objectInit ⟨#[0xb1]⟩ 1 none ∈ ex_g) (hf : 1 ≤ d) (hst : st = []) (k : ex_W M d mc ms post H (pc + 3) ls st cells slots) : ex_W M d mc ms post H pc ls (.ref a :: st) cells slots := by
  intro p l e s m args below meth c D dA b X HH locs lsr hP hS hL
  have hts := X.2.2.2.2.2.2.2.1
  subst hst
  refine W.objInit X.1 X.2.1 X.2.2.2.2.2.1 (hts _ h1) (hts _ h2) (hts _ h3) rfl (hL.1.trans X.2.2.2.2.1.symm) rfl hd hf ?_ (k p l e s m args below meth c D dA b X HH locs lsr hP hS hL)
  show 2 * 0 + 0 + 12 ≤ 38 * d + 4
  omega
/-- what a call needs of the tables -/
def ex_cm (N : ex_M) (n : Nat) : Prop := Cond.code N.1 N.2.1 N.2.2.1 N.2.2.2.1 ∈ ex_g ∧ Cond.initialized N.1.cls ∈ ex_g ∧ (N.1.cls ≠ "java/lang/invoke/MethodHandle" ∧ N.1.cls ≠ "java/lang/invoke/VarHandle" ∧ (parseMethodDescriptor N.1.desc).map (fun d => d.parameters.length) = some n) ∧ N.2.2.1 ≤ 19
theorem ex_good {N : ex_M} {n : Nat} (h : ex_cm N n) : GoodIn ex_g (.code N.1 N.2.1 N.2.2.1 N.2.2.2.1 :: ex_g) := fun w hw => by
  rcases List.mem_cons.mp hw with rfl | hw
  · exact ⟨h.1, ex_g_good _ h.1⟩
  · exact ⟨hw, ex_g_good _ hw⟩
theorem ex_blind (D : va_G) (dA : FieldType → ClassId) (b : ex_B) (H : ex_H) (As : List Value) : FrameBlind (va_Pc (As.map (ex_v b)) (fun U => ex_P D dA b H U.heap ∧ ex_K D dA U)) := fun a U g mk q => ⟨q.1, q.2.1, q.2.2.same rfl⟩
theorem ex_cont {p : Program} {l : Launch} {e : Env} {R : Room} {s : State} {m : MethodId} {args : Array Value} {below : List Frame} {meth : Method} {c : Code} {HH H0 : Heap} {locs : List Loc} {cells slots mc' ms' : Nat} {Q : State → Prop} {D : va_G} {dA : FieldType → ClassId} {b : ex_B} {post' : ex_H → Option Value → Prop} {pc : Nat} {lsr : Array Slot} {st0 rest : List Value} {a : Array Value}
    (hr : va_Run p l e R s m args below meth c HH locs cells slots mc' ms' (F0 m pc lsr st0) rest (ex_Q D dA b post' a) (fun q => b.1 ≤ q)) (hS : va_S (fun q => b.1 ≤ q) H0 HH locs)
    (kk : ∀ (H' : ex_H) (r : Option Value) (H1 : Heap) (locs1 : List Loc), post' H' r → ex_P D dA b H' H1 → va_S (fun q => b.1 ≤ q) H0 H1 locs1 → W p l e R s m args below meth c H1 locs1 (cells + mc') (slots + ms') Q (F0 m (pc + 3) lsr ((r.map (ex_v b)).toList ++ rest))) : W p l e R s m args below meth c HH locs cells slots Q (F0 m pc lsr st0) := by
  intro T hT X
  obtain ⟨v, st₀, t, T', L, h0, X', hL, e1, e2, ⟨⟨H', r, hv, hp, hb⟩, hz, hk⟩, st⟩ := hr T hT X
  have hv : v = r.map (ex_v b) := by simpa using hv
  subst hv
  rw [h0] at hz hk
  obtain ⟨t2, a1, b1⟩ := kk H' r T'.heap (locs ++ L) hp (by rw [e1]; exact hb)
    ⟨Nat.le_trans hS.1 (by rw [e1]; exact hz), fun q h1 h2 => by rw [e1, hk q (Nat.lt_of_lt_of_le h1 hS.1) h2]; exact hS.2.1 q h1 h2, fun q hq => by
      rcases List.mem_append.mp hq with h | h
      · exact hS.2.2 q h
      · exact hL q h⟩ T' rfl X'
  exact ⟨t2, st t2 a1, b1⟩
theorem ex_room (b : ex_B) (st : List Value) (h : (st.map fun v => v.category).sum ≤ 8) : ((st.map (ex_v b)).map fun v => v.category).sum ≤ 8 := by
  have : (st.map (ex_v b)).map (fun v => v.category) = st.map (fun v => v.category) := by
    rw [List.map_map]
    exact List.map_congr_left (fun v _ => ex_v_cat b v)
  rw [this]; exact h
theorem ex_tostack (b : ex_B) (r : Option Value) (st : List Value) : (r.map (ex_v b)).toList ++ st.map (ex_v b) = (r.toList ++ st).map (ex_v b) := by cases r <;> rfl
def ex_V (own : String) (idx : Nat) (N : ex_M) (n : Nat) : Prop := ex_cm N n ∧ Cond.methodLink own idx N.1 ∈ ex_g ∧ Cond.instanceMethod N.1 ∈ ex_g ∧ Cond.selects N.1.cls N.1 N.1 ∈ ex_g
theorem ew_callV {idx n a ci mc' ms' : Nat} {N : ex_M} {As fs : List Value} {post' : ex_H → Option Value → Prop} (hd : decode M.2.1 pc = .ok (.invokevirtual idx, 3)) (hV : ex_V M.1.cls idx N n) (hH : H[a]? = some (ob ci fs)) (hci : (vwCl[ci]?).map (fun q => q.1) = some N.1.cls) (hM : ex_Met N d mc' ms' H (.ref a :: As) post') (hn : As.length = n) (hst : (st.map fun v => v.category).sum ≤ 8) (hc : cells + mc' ≤ mc ∧ slots + ms' ≤ ms) {st0 : List Value} (hs : As.reverse ++ .ref a :: st = st0)
    (k : ∀ (H' : ex_H) (r : Option Value), post' H' r → ex_W M (d + 1) mc ms post H' (pc + 3) ls (r.toList ++ st) (cells + mc') (slots + ms')) : ex_W M (d + 1) mc ms post H pc ls st0 cells slots := by
  intro p l e s m args below meth c D dA b X HH locs lsr hP hS hL
  subst hs
  obtain ⟨hcm, h1, h2, h3⟩ := hV
  have hts := X.2.2.2.2.2.2.2.1
  have hK := X.2.2.2.2.2.2.2.2.1
  obtain ⟨r, hr⟩ : ∃ r, vwCl[ci]? = some r := by
    cases h : vwCl[ci]? with
    | none => rw [h] at hci; cases hci
    | some r => exact ⟨r, rfl⟩
  have hrC : r.1 = N.1.cls := by rw [hr] at hci; exact Option.some.inj hci
  have cb : CallB (ex_R (d + 1) mc ms) s args M.1.cls idx N.1 N.2.1 N.2.2.1 N.2.2.2.1 (.code N.1 N.2.1 N.2.2.1 N.2.2.2.1 :: ex_g) (ex_R d mc' ms') mc' ms' n :=
    callB_of n hts (ex_good hcm) rfl rfl rfl (hts _ hcm.2.1) (hts _ h1) hcm.2.2.1 ⟨Nat.le_refl _, by have := hcm.2.2.2; show 8 + (N.2.2.1 + 11) + (38 * d + 4) ≤ 38 * (d + 1) + 4; omega⟩
  have hrun := va_runV (p := p) (l := l) (e := e) (R := ex_R (d + 1) mc ms) (s := s) (m := m) (args := args) (below := below) (meth := meth) (c := c) (H := HH) (locs := locs) (cells := cells) (slots := slots) (cc := M.2.1) (nL := M.2.2.1) (Ts := ex_g) (own := M.1.cls) (C := N.1.cls) (b := b.1 + a) (As := As.map (ex_v b)) (rest := st.map (ex_v b)) (g := F0 m pc lsr ((As.reverse ++ .ref a :: st).map (ex_v b)))
    ⟨X.1, X.2.1, X.2.2.2.2.1, X.2.2.2.2.2.1, hts⟩ (hM l D dA b) ⟨cb, hts _ h2, hts _ h3⟩
    ⟨ex_blind D dA b H _, by
      obtain ⟨r', g1, cell, q1, q2, q3, q4⟩ := hP.2 a _ hH
      exact ⟨cell, q1, by rw [q3]; rfl, by rw [q2, ← hrC]; exact (hK.1.1 ci r hr).2.1⟩, fun U hU hW => ⟨rfl, by rw [hU]; exact hP, hK.warm hW⟩⟩
    rfl (by rw [List.length_map]; exact hn) hL.1 (by show (As.reverse ++ .ref a :: st).map (ex_v b) = _; rw [List.map_append, List.map_reverse]; rfl) (lv_room (ex_room b st hst)) hd hc
  refine ex_cont hrun hS (fun H' r H1 locs1 hp hP1 hS1 => ?_)
  have hk := k H' r hp p l e s m args below meth c D dA b X H1 locs1 lsr hP1 hS1 hL
  rw [← ex_tostack] at hk
  exact hk
def ex_S (own : String) (idx : Nat) (N : ex_M) (n : Nat) : Prop := ex_cm N n ∧ Cond.static N.1 ∈ ex_g ∧ (Cond.methodLink own idx N.1 ∈ ex_g ∨ ∃ host, Cond.methodLinkNest own idx N.1 host ∈ lw_tbl)
theorem ew_callS {idx n mc' ms' : Nat} {N : ex_M} {As : List Value} {post' : ex_H → Option Value → Prop} (hd : decode M.2.1 pc = .ok (.invokestatic idx, 3)) (hV : ex_S M.1.cls idx N n) (hM : ex_Met N d mc' ms' H As post') (hn : As.length = n) (hst : (st.map fun v => v.category).sum ≤ 8) (hc : cells + mc' ≤ mc ∧ slots + ms' ≤ ms) {st0 : List Value} (hs : As.reverse ++ st = st0)
    (k : ∀ (H' : ex_H) (r : Option Value), post' H' r → ex_W M (d + 1) mc ms post H' (pc + 3) ls (r.toList ++ st) (cells + mc') (slots + ms')) : ex_W M (d + 1) mc ms post H pc ls st0 cells slots := by
  intro p l e s m args below meth c D dA b X HH locs lsr hP hS hL
  subst hs
  obtain ⟨hcm, h1, h2⟩ := hV
  have hts := X.2.2.2.2.2.2.2.1
  have hK := X.2.2.2.2.2.2.2.2.1
  have hrm : (ex_R d mc' ms').frames + 1 ≤ (ex_R (d + 1) mc ms).frames ∧ 8 + (N.2.2.1 + 11) + (ex_R d mc' ms').locals ≤ (ex_R (d + 1) mc ms).locals := ⟨Nat.le_refl _, by have := hcm.2.2.2; show 8 + (N.2.2.1 + 11) + (38 * d + 4) ≤ 38 * (d + 1) + 4; omega⟩
  have hpre : PreS s HH (va_Pc (As.map (ex_v b)) (fun U => ex_P D dA b H U.heap ∧ ex_K D dA U)) (As.map (ex_v b)) := ⟨ex_blind D dA b H _, fun U hU hW => ⟨rfl, by rw [hU]; exact hP, hK.warm hW⟩⟩
  have hrun : va_Run p l e (ex_R (d + 1) mc ms) s m args below meth c HH locs cells slots mc' ms' (F0 m pc lsr ((As.reverse ++ st).map (ex_v b))) (st.map (ex_v b)) (ex_Q D dA b post' (As.map (ex_v b)).toArray) (fun q => b.1 ≤ q) := by
    rcases h2 with h2 | ⟨host, h2⟩
    · exact va_runS (cc := M.2.1) (nL := M.2.2.1) (Ts := ex_g) (own := M.1.cls) ⟨X.1, X.2.1, X.2.2.2.2.1, X.2.2.2.2.2.1, hts⟩ (hM l D dA b) ⟨callB_of n hts (ex_good hcm) rfl rfl rfl (hts _ hcm.2.1) (hts _ h2) hcm.2.2.1 hrm, hts _ h1⟩ hpre rfl (by rw [List.length_map]; exact hn) hL.1 (by show (As.reverse ++ st).map (ex_v b) = _; rw [List.map_append, List.map_reverse]) (lv_room (ex_room b st hst)) hd hc
    · exact va_runSN (cc := M.2.1) (nL := M.2.2.1) (Ts := ex_g) (own := M.1.cls) ⟨X.1, X.2.1, X.2.2.2.2.1, X.2.2.2.2.2.1, hts⟩ (hM l D dA b) ⟨va_cnB n hts (ex_good hcm) rfl rfl rfl (hK.2.1 _ _ _ _ h2) (hts _ hcm.2.1) hcm.2.2.1 hrm, hts _ h1, trivial⟩ hpre rfl (by rw [List.length_map]; exact hn) hL.1 (by show (As.reverse ++ st).map (ex_v b) = _; rw [List.map_append, List.map_reverse]) (lv_room (ex_room b st hst)) hd hc
  refine ex_cont hrun hS (fun H' r H1 locs1 hp hP1 hS1 => ?_)
  have hk := k H' r hp p l e s m args below meth c D dA b X H1 locs1 lsr hP1 hS1 hL
  rw [← ex_tostack] at hk
  exact hk
def ex_I (own : String) (idx : Nat) (N : ex_M) (n : Nat) : Prop := ex_cm N n ∧ Cond.instanceMethod N.1 ∈ ex_g ∧ N.1.name = "<init>" ∧ N.2.2.2.1 = none ∧ (Cond.methodLink own idx N.1 ∈ ex_g ∨ ∃ host, Cond.methodLinkNest own idx N.1 host ∈ lw_tbl)
theorem ew_callI {idx n a mc' ms' : Nat} {N : ex_M} {As : List Value} {post' : ex_H → Option Value → Prop} (hd : decode M.2.1 pc = .ok (.invokespecial idx, 3)) (hV : ex_I M.1.cls idx N n) (hM : ex_Met N d mc' ms' H (.ref a :: As) post') (hn : As.length = n) (hst : (st.map fun v => v.category).sum ≤ 8) (hc : cells + mc' ≤ mc ∧ slots + ms' ≤ ms) {st0 : List Value} (hs : As.reverse ++ .ref a :: st = st0)
    (k : ∀ (H' : ex_H) (r : Option Value), post' H' r → ex_W M (d + 1) mc ms post H' (pc + 3) ls (r.toList ++ st) (cells + mc') (slots + ms')) : ex_W M (d + 1) mc ms post H pc ls st0 cells slots := by
  intro p l e s m args below meth c D dA b X HH locs lsr hP hS hL
  subst hs
  obtain ⟨hcm, h1, hnm, hrt, h2⟩ := hV
  have hts := X.2.2.2.2.2.2.2.1
  have hK := X.2.2.2.2.2.2.2.2.1
  have hrm : (ex_R d mc' ms').frames + 1 ≤ (ex_R (d + 1) mc ms).frames ∧ 8 + (N.2.2.1 + 11) + (ex_R d mc' ms').locals ≤ (ex_R (d + 1) mc ms).locals := ⟨Nat.le_refl _, by have := hcm.2.2.2; show 8 + (N.2.2.1 + 11) + (38 * d + 4) ≤ 38 * (d + 1) + 4; omega⟩
  have hpre : PreS s HH (va_Pc ((Value.ref a :: As).map (ex_v b)) (fun U => ex_P D dA b H U.heap ∧ ex_K D dA U)) (.ref (b.1 + a) :: As.map (ex_v b)) := ⟨ex_blind D dA b H _, fun U hU hW => ⟨rfl, by rw [hU]; exact hP, hK.warm hW⟩⟩
  have hMl := hM l D dA b
  have hgd := ex_good hcm
  have hcm1 := hcm.1
  rw [hrt] at hMl hgd hcm1
  have hrun : va_Run p l e (ex_R (d + 1) mc ms) s m args below meth c HH locs cells slots mc' ms' (F0 m pc lsr ((As.reverse ++ .ref a :: st).map (ex_v b))) (st.map (ex_v b)) (ex_Q D dA b post' (Value.ref (b.1 + a) :: As.map (ex_v b)).toArray) (fun q => b.1 ≤ q) := by
    rcases h2 with h2 | ⟨host, h2⟩
    · exact va_runI (cc := M.2.1) (nL := M.2.2.1) (Ts := ex_g) (own := M.1.cls) ⟨X.1, X.2.1, X.2.2.2.2.1, X.2.2.2.2.2.1, hts⟩ hMl ⟨callB_of n hts hgd rfl rfl rfl (hts _ hcm.2.1) (hts _ h2) hcm.2.2.1 hrm, hnm, hts _ h1⟩ hpre rfl (by rw [List.length_map]; exact hn) hL.1 (by show (As.reverse ++ .ref a :: st).map (ex_v b) = _; rw [List.map_append, List.map_reverse]; rfl) (lv_room (ex_room b st hst)) hd hc
    · exact va_runIN (cc := M.2.1) (nL := M.2.2.1) (Ts := ex_g) (own := M.1.cls) ⟨X.1, X.2.1, X.2.2.2.2.1, X.2.2.2.2.2.1, hts⟩ hMl ⟨va_cnB n hts hgd rfl rfl rfl (hK.2.1 _ _ _ _ h2) (hts _ hcm.2.1) hcm.2.2.1 hrm, hnm, hts _ h1⟩ hpre rfl (by rw [List.length_map]; exact hn) hL.1 (by show (As.reverse ++ .ref a :: st).map (ex_v b) = _; rw [List.map_append, List.map_reverse]; rfl) (lv_room (ex_room b st hst)) hd hc
  refine ex_cont hrun hS (fun H' r H1 locs1 hp hP1 hS1 => ?_)
  have hk := k H' r hp p l e s m args below meth c D dA b X H1 locs1 lsr hP1 hS1 hL
  rw [← ex_tostack] at hk
  exact hk
theorem ew_iret {v : Int32} {ty : FieldType} (hd : decode M.2.1 pc = .ok (.ireturn, 1)) (hr : M.2.2.2.1 = some ty) (hn : narrow ty (.int v) = .int v) (hc : cells ≤ mc) (hs : slots ≤ ms) (hq : post H (some (.int v))) : ex_W M d mc ms post H pc ls [.int v] cells slots := by
  intro p l e s m args below meth c D dA b X HH locs lsr hP hS hL
  have hlocks := X.2.2.2.1
  refine W.widen hc hs ?_
  exact W.zret X.1 X.2.1 (X.2.2.1.trans hr) hn (fun t ht hW => ⟨⟨H, some (.int v), rfl, hq, by rw [ht]; exact hP⟩, hS.F ht⟩) hS.2.2 hd
theorem ew_vret (hd : decode M.2.1 pc = .ok (.return_, 1)) (hr : M.2.2.2.1 = none) (hc : cells ≤ mc) (hs : slots ≤ ms) (hq : post H none) : ex_W M d mc ms post H pc ls [] cells slots := by
  intro p l e s m args below meth c D dA b X HH locs lsr hP hS hL
  have hlocks := X.2.2.2.1
  refine W.widen hc hs ?_
  exact W.vret X.1 X.2.1 (X.2.2.1.trans hr) (fun t ht hW => ⟨⟨H, none, rfl, hq, by rw [ht]; exact hP⟩, hS.F ht⟩) hS.2.2 hd
theorem ew_aret {v : Option Nat} {C : String} (hd : decode M.2.1 pc = .ok (.areturn, 1)) (hr : M.2.2.2.1 = some (.object C)) (hc : cells ≤ mc) (hs : slots ≤ ms) (hq : post H (some (va_rf v))) : ex_W M d mc ms post H pc ls [va_rf v] cells slots := by
  intro p l e s m args below meth c D dA b X HH locs lsr hP hS hL
  have hlocks := X.2.2.2.1
  refine W.widen hc hs ?_
  exact W.aret X.1 X.2.1 (X.2.2.1.trans hr) (Or.inl ⟨C, rfl⟩) (by cases v with
    | none => exact Or.inl rfl
    | some a => exact Or.inr ⟨_, rfl⟩) (fun t ht hW => ⟨⟨H, some (va_rf v), rfl, hq, by rw [ht]; exact hP⟩, hS.F ht⟩) hS.2.2 hd
end EW
end
section
theorem ex_tw {w : Cond} (i : Nat) (h : tables_1[i]? = some w) (hg : goodWord w = true) : w ∈ ex_g := List.mem_filter.mpr ⟨List.mem_append_right _ (List.mem_of_getElem? h), hg⟩
theorem ex_tn {w : Cond} (i : Nat) (h : tables_1[i]? = some w) : w ∈ lw_tbl := List.mem_append_right _ (List.mem_of_getElem? h)
theorem ex_ts {w : Cond} (i : Nat) (h : (k2_sels lw_privs)[i]? = some w) (hg : goodWord w = true) : w ∈ ex_g := List.mem_filter.mpr ⟨List.mem_append_left _ (List.mem_of_getElem? h), hg⟩
theorem ex_all {ws : List Cond} (h : ws.all (fun w => decide (w ∈ tables_1) && goodWord w) = true) : ∀ w ∈ ws, w ∈ ex_g := fun w hw => by
  have h1 := List.all_eq_true.mp h w hw
  rw [Bool.and_eq_true] at h1
  exact List.mem_filter.mpr ⟨List.mem_append_right _ (of_decide_eq_true h1.1), h1.2⟩
abbrev mX9_init : ex_M := (yX9_init, cX9_init, 1, none, none)
abbrev mX7_init : ex_M := (yX7_init, cX7_init, 1, none, none)
abbrev mX6_init : ex_M := (yX6_init, cX6_init, 1, none, none)
abbrev mX4_init : ex_M := (yX4_init, cX4_init, 1, none, none)
abbrev mX2_init : ex_M := (yX2_init, cX2_init, 1, none, none)
abbrev mX3_init : ex_M := (yX3_init, cX3_init, 2, none, none)
abbrev mX0_init : ex_M := (yX0_init, cX0_init, 1, none, none)
abbrev mX8_init : ex_M := (yX8_init, cX8_init, 1, none, none)
abbrev mX9_feed : ex_M := (yX9_feed, cX9_feed, 2, (some .int), none)
abbrev mX9_within : ex_M := (yX9_within, cX9_within, 3, (some .boolean), none)
abbrev mX7_append : ex_M := (yX7_append, cX7_append, 2, (some .int), none)
abbrev mX9_picture : ex_M := (yX9_picture, cX9_picture, 2, (some .int), none)
abbrev mX7_readInto : ex_M := (yX7_readInto, cX7_readInto, 5, (some .int), none)
abbrev mX5_init : ex_M := (yX5_init, cX5_init, 2, none, none)
abbrev mX5_take : ex_M := (yX5_take, cX5_take, 3, (some .int), none)
abbrev mX5_takeRowEnd : ex_M := (yX5_takeRowEnd, cX5_takeRowEnd, 2, (some .int), none)
abbrev mX4_setSize : ex_M := (yX4_setSize, cX4_setSize, 3, none, none)
abbrev mX5_signOf : ex_M := (yX5_signOf, cX5_signOf, 1, (some .int), none)
abbrev mX5_takeFirstSign : ex_M := (yX5_takeFirstSign, cX5_takeFirstSign, 2, (some .int), none)
abbrev mX5_takeSecondSign : ex_M := (yX5_takeSecondSign, cX5_takeSecondSign, 3, (some .int), none)
abbrev mX4_setInOrder : ex_M := (yX4_setInOrder, cX4_setInOrder, 4, none, none)
abbrev mX7_placeRead : ex_M := (yX7_placeRead, cX7_placeRead, 1, (some .int), none)
abbrev mX7_clear : ex_M := (yX7_clear, cX7_clear, 1, none, none)
abbrev mX3_remember : ex_M := (yX3_remember, cX3_remember, 2, none, none)
abbrev mX4_become : ex_M := (yX4_become, cX4_become, 3, none, none)
abbrev mX4_dots : ex_M := (yX4_dots, cX4_dots, 1, (some .int), none)
abbrev mX9_fault : ex_M := (yX9_fault, cX9_fault, 1, (some .int), none)
abbrev mX9_told : ex_M := (yX9_told, cX9_told, 2, (some .int), none)
abbrev mX4_maskedDots : ex_M := (yX4_maskedDots, cX4_maskedDots, 3, (some .int), none)
abbrev mX4_leastGrey : ex_M := (yX4_leastGrey, cX4_leastGrey, 3, (some .int), none)
abbrev mX4_greatestGrey : ex_M := (yX4_greatestGrey, cX4_greatestGrey, 3, (some .int), none)
abbrev mX4_greysTogether : ex_M := (yX4_greysTogether, cX4_greysTogether, 3, (some .int), none)
abbrev mX0_firstWrong : ex_M := (yX0_firstWrong, cX0_firstWrong, 3, (some .int), none)
abbrev mX4_has : ex_M := (yX4_has, cX4_has, 3, (some .boolean), none)
abbrev mX4_greyOf : ex_M := (yX4_greyOf, cX4_greyOf, 3, (some .int), none)
abbrev mX9_at : ex_M := (yX9_at, cX9_at, 4, (some .int), none)
abbrev mX4_isMasked : ex_M := (yX4_isMasked, cX4_isMasked, 3, (some .boolean), none)
abbrev mX9_tally : ex_M := (yX9_tally, cX9_tally, 6, (some .int), none)
abbrev mX4_dotsUpTo : ex_M := (yX4_dotsUpTo, cX4_dotsUpTo, 9, (some .int), none)
abbrev mX9_filter : ex_M := (yX9_filter, cX9_filter, 6, (some .int), none)
abbrev mX2_isFull : ex_M := (yX2_isFull, cX2_isFull, 1, (some .boolean), none)
abbrev mX1_init : ex_M := (yX1_init, cX1_init, 6, none, none)
abbrev mX2_add : ex_M := (yX2_add, cX2_add, 2, (some .int), none)
abbrev mX9_drop : ex_M := (yX9_drop, cX9_drop, 2, (some .int), none)
abbrev mX2_numbered : ex_M := (yX2_numbered, cX2_numbered, 2, (some (.object RX1)), none)
abbrev mX2_remove : ex_M := (yX2_remove, cX2_remove, 3, (some .int), none)
abbrev mX9_fill : ex_M := (yX9_fill, cX9_fill, 3, (some .int), none)
abbrev mX9_would : ex_M := (yX9_would, cX9_would, 6, (some .int), none)
abbrev mX8_lookAt : ex_M := (yX8_lookAt, cX8_lookAt, 7, none, none)
abbrev mJ7_fill_53178 : ex_M := (yJ7_fill_53178, cJ7_fill_53178, 4, none, none)
abbrev mX8_standingFor : ex_M := (yX8_standingFor, cX8_standingFor, 4, (some .int), none)
abbrev mJ9_floorMod_7cf53 : ex_M := (yJ9_floorMod_7cf53, cJ9_floorMod_7cf53, 3, (some .int), none)
abbrev mJ9_min_7cf53 : ex_M := (yJ9_min_7cf53, cJ9_min_7cf53, 2, (some .int), none)
abbrev mX8_countRow : ex_M := (yX8_countRow, cX8_countRow, 8, none, none)
abbrev mX8_count : ex_M := (yX8_count, cX8_count, 3, none, none)
abbrev mX8_ranked : ex_M := (yX8_ranked, cX8_ranked, 5, (some .int), none)
abbrev mX8_countedBelow : ex_M := (yX8_countedBelow, cX8_countedBelow, 4, (some .int), none)
abbrev mX8_spread : ex_M := (yX8_spread, cX8_spread, 1, (some .int), none)
abbrev mX9_bins : ex_M := (yX9_bins, cX9_bins, 7, (some .int), none)
abbrev mX9_lastOf : ex_M := (yX9_lastOf, cX9_lastOf, 4, (some .int), none)
abbrev mX9_spikes : ex_M := (yX9_spikes, cX9_spikes, 7, (some .int), none)
abbrev mJ9_abs_0f7a4 : ex_M := (yJ9_abs_0f7a4, cJ9_abs_0f7a4, 1, (some .int), none)
abbrev mX9_dot : ex_M := (yX9_dot, cX9_dot, 5, (some .int), none)
abbrev mX4_setGrey : ex_M := (yX4_setGrey, cX4_setGrey, 4, none, none)
abbrev mX9_mask : ex_M := (yX9_mask, cX9_mask, 4, (some .int), none)
abbrev mX4_setMasked : ex_M := (yX4_setMasked, cX4_setMasked, 4, none, none)
abbrev mX9_turn : ex_M := (yX9_turn, cX9_turn, 2, (some .int), none)
abbrev mX4_becomeTurned : ex_M := (yX4_becomeTurned, cX4_becomeTurned, 9, none, none)
abbrev mX9_filtered : ex_M := (yX9_filtered, cX9_filtered, 3, (some .int), none)
abbrev mX9_apply : ex_M := (yX9_apply, cX9_apply, 4, (some .int), none)
abbrev mX4_greysOtherThan : ex_M := (yX4_greysOtherThan, cX4_greysOtherThan, 4, (some .int), none)
abbrev mX9_all : ex_M := (yX9_all, cX9_all, 3, (some .int), none)
abbrev mX9_until : ex_M := (yX9_until, cX9_until, 5, (some .int), none)
abbrev mX9_noise : ex_M := (yX9_noise, cX9_noise, 3, (some .int), none)
abbrev mX6_speckle : ex_M := (yX6_speckle, cX6_speckle, 5, none, none)
abbrev mX6_draw : ex_M := (yX6_draw, cX6_draw, 2, (some .int), none)
abbrev mX9_undo : ex_M := (yX9_undo, cX9_undo, 2, (some .int), none)
abbrev mX3_takeBack : ex_M := (yX3_takeBack, cX3_takeBack, 3, none, none)
abbrev mX9_write : ex_M := (yX9_write, cX9_write, 4, (some .int), none)
abbrev mX0_add : ex_M := (yX0_add, cX0_add, 4, (some .int), none)
abbrev mX9_tear : ex_M := (yX9_tear, cX9_tear, 2, (some .int), none)
abbrev mX9_seed : ex_M := (yX9_seed, cX9_seed, 3, (some .int), none)
abbrev mX9_keep : ex_M := (yX9_keep, cX9_keep, 2, (some .int), none)
abbrev mX6_become : ex_M := (yX6_become, cX6_become, 2, none, none)
abbrev mX2_become : ex_M := (yX2_become, cX2_become, 3, none, none)
abbrev mX3_forget : ex_M := (yX3_forget, cX3_forget, 1, none, none)
abbrev mX9_goBack : ex_M := (yX9_goBack, cX9_goBack, 2, (some .int), none)
abbrev mX9_against : ex_M := (yX9_against, cX9_against, 2, (some .int), none)
abbrev mX4_dotsOtherThan : ex_M := (yX4_dotsOtherThan, cX4_dotsOtherThan, 4, (some .int), none)
abbrev mX10_init : ex_M := (yX10_init, cX10_init, 1, none, none)
abbrev mX10_feed : ex_M := (yX10_feed, cX10_feed, 2, (some .int), none)
abbrev mX10_in : ex_M := (yX10_in, cX10_in, 6, (some .boolean), none)
abbrev mX10_picture : ex_M := (yX10_picture, cX10_picture, 2, (some .int), none)
abbrev mX10_readText : ex_M := (yX10_readText, cX10_readText, 3, (some .int), none)
abbrev mX10_faultOf : ex_M := (yX10_faultOf, cX10_faultOf, 3, (some .int), none)
abbrev mX10_faultOfBreak : ex_M := (yX10_faultOfBreak, cX10_faultOfBreak, 1, (some .int), none)
abbrev mX10_isShort : ex_M := (yX10_isShort, cX10_isShort, 1, (some .boolean), none)
abbrev mX10_figure : ex_M := (yX10_figure, cX10_figure, 1, (some .int), none)
abbrev mX10_goOn : ex_M := (yX10_goOn, cX10_goOn, 2, none, none)
abbrev mX10_remember : ex_M := (yX10_remember, cX10_remember, 2, none, none)
abbrev mX10_copyRow : ex_M := (yX10_copyRow, cX10_copyRow, 4, none, none)
abbrev mX10_layPicture : ex_M := (yX10_layPicture, cX10_layPicture, 4, none, none)
abbrev mX10_place : ex_M := (yX10_place, cX10_place, 3, (some .int), none)
abbrev mX10_fault : ex_M := (yX10_fault, cX10_fault, 1, (some .int), none)
abbrev mX10_told : ex_M := (yX10_told, cX10_told, 2, (some .int), none)
abbrev mX10_masked : ex_M := (yX10_masked, cX10_masked, 4, (some .int), none)
abbrev mX10_isMasked : ex_M := (yX10_isMasked, cX10_isMasked, 3, (some .boolean), none)
abbrev mX10_ofGreys : ex_M := (yX10_ofGreys, cX10_ofGreys, 8, (some .int), none)
abbrev mX10_grey : ex_M := (yX10_grey, cX10_grey, 3, (some .int), none)
abbrev mX10_wrong : ex_M := (yX10_wrong, cX10_wrong, 2, (some .int), none)
abbrev mX10_isDot : ex_M := (yX10_isDot, cX10_isDot, 3, (some .boolean), none)
abbrev mX10_at : ex_M := (yX10_at, cX10_at, 4, (some .int), none)
abbrev mX10_tally : ex_M := (yX10_tally, cX10_tally, 9, (some .int), none)
abbrev mX10_filter : ex_M := (yX10_filter, cX10_filter, 8, (some .int), none)
abbrev mX10_drop : ex_M := (yX10_drop, cX10_drop, 3, (some .int), none)
abbrev mX10_isFilter : ex_M := (yX10_isFilter, cX10_isFilter, 2, (some .boolean), none)
abbrev mX10_fill : ex_M := (yX10_fill, cX10_fill, 3, (some .int), none)
abbrev mX10_would : ex_M := (yX10_would, cX10_would, 6, (some .int), none)
abbrev mX10_lastOf : ex_M := (yX10_lastOf, cX10_lastOf, 4, (some .int), none)
abbrev mX10_layWindow : ex_M := (yX10_layWindow, cX10_layWindow, 6, none, none)
abbrev mX10_part : ex_M := (yX10_part, cX10_part, 3, (some .int), none)
abbrev mX10_countAt : ex_M := (yX10_countAt, cX10_countAt, 7, none, none)
abbrev mX10_countOut : ex_M := (yX10_countOut, cX10_countOut, 6, none, none)
abbrev mX10_count : ex_M := (yX10_count, cX10_count, 3, none, none)
abbrev mX10_standIn : ex_M := (yX10_standIn, cX10_standIn, 4, (some .int), none)
abbrev mX10_leftOver : ex_M := (yX10_leftOver, cX10_leftOver, 2, (some .int), none)
abbrev mX10_below : ex_M := (yX10_below, cX10_below, 4, (some .int), none)
abbrev mX10_bins : ex_M := (yX10_bins, cX10_bins, 6, (some .int), none)
abbrev mX10_spikes : ex_M := (yX10_spikes, cX10_spikes, 7, (some .int), none)
abbrev mX10_dot : ex_M := (yX10_dot, cX10_dot, 5, (some .int), none)
abbrev mX10_setGrey : ex_M := (yX10_setGrey, cX10_setGrey, 4, none, none)
abbrev mX10_mask : ex_M := (yX10_mask, cX10_mask, 4, (some .int), none)
abbrev mX10_turn : ex_M := (yX10_turn, cX10_turn, 4, (some .int), none)
abbrev mX10_turnedFrom : ex_M := (yX10_turnedFrom, cX10_turnedFrom, 6, (some .int), none)
abbrev mX10_filtered : ex_M := (yX10_filtered, cX10_filtered, 2, (some .int), none)
abbrev mX10_applyNow : ex_M := (yX10_applyNow, cX10_applyNow, 5, (some .int), none)
abbrev mX10_all : ex_M := (yX10_all, cX10_all, 5, (some .int), none)
abbrev mX10_until : ex_M := (yX10_until, cX10_until, 4, (some .int), none)
abbrev mX10_noise : ex_M := (yX10_noise, cX10_noise, 6, (some .int), none)
abbrev mX10_draw : ex_M := (yX10_draw, cX10_draw, 2, (some .int), none)
abbrev mX10_undo : ex_M := (yX10_undo, cX10_undo, 3, (some .int), none)
abbrev mX10_write : ex_M := (yX10_write, cX10_write, 4, (some .int), none)
abbrev mX10_tear : ex_M := (yX10_tear, cX10_tear, 2, (some .int), none)
abbrev mX10_seed : ex_M := (yX10_seed, cX10_seed, 3, (some .int), none)
abbrev mX10_keep : ex_M := (yX10_keep, cX10_keep, 3, (some .int), none)
abbrev mX10_goBack : ex_M := (yX10_goBack, cX10_goBack, 3, (some .int), none)
abbrev mX10_isKept : ex_M := (yX10_isKept, cX10_isKept, 2, (some .boolean), none)
abbrev mX10_against : ex_M := (yX10_against, cX10_against, 6, (some .int), none)
theorem igX0 : ∀ w ∈ u_ws RX0 TX0 4, w ∈ ex_g := ex_all (by decide +kernel)
theorem igX1 : ∀ w ∈ u_ws RX1 TX1 5, w ∈ ex_g := ex_all (by decide +kernel)
theorem igX2 : ∀ w ∈ u_ws RX2 TX2 2, w ∈ ex_g := ex_all (by decide +kernel)
theorem igX3 : ∀ w ∈ u_ws RX3 TX3 3, w ∈ ex_g := ex_all (by decide +kernel)
theorem igX4 : ∀ w ∈ u_ws RX4 TX4 4, w ∈ ex_g := ex_all (by decide +kernel)
theorem igX5 : ∀ w ∈ u_ws RX5 TX5 6, w ∈ ex_g := ex_all (by decide +kernel)
theorem igX6 : ∀ w ∈ u_ws RX6 TX6 4, w ∈ ex_g := ex_all (by decide +kernel)
theorem igX7 : ∀ w ∈ u_ws RX7 TX7 3, w ∈ ex_g := ex_all (by decide +kernel)
theorem igX8 : ∀ w ∈ u_ws RX8 TX8 3, w ∈ ex_g := ex_all (by decide +kernel)
theorem igX9 : ∀ w ∈ u_ws RX9 TX9 10, w ∈ ex_g := ex_all (by decide +kernel)
theorem igX10 : ∀ w ∈ u_ws RX10 TX10 23, w ∈ ex_g := ex_all (by decide +kernel)
theorem cmX9_init : ex_cm mX9_init 0 := ⟨(ex_tw 18 (by rfl) rfl), (ex_tw 1 (by rfl) rfl), ⟨(by decide +kernel), (by decide +kernel), (by decide +kernel)⟩, (by decide +kernel)⟩
theorem cmX7_init : ex_cm mX7_init 0 := ⟨(ex_tw 26 (by rfl) rfl), (ex_tw 2 (by rfl) rfl), ⟨(by decide +kernel), (by decide +kernel), (by decide +kernel)⟩, (by decide +kernel)⟩
theorem cmX6_init : ex_cm mX6_init 0 := ⟨(ex_tw 44 (by rfl) rfl), (ex_tw 3 (by rfl) rfl), ⟨(by decide +kernel), (by decide +kernel), (by decide +kernel)⟩, (by decide +kernel)⟩
theorem cmX4_init : ex_cm mX4_init 0 := ⟨(ex_tw 50 (by rfl) rfl), (ex_tw 4 (by rfl) rfl), ⟨(by decide +kernel), (by decide +kernel), (by decide +kernel)⟩, (by decide +kernel)⟩
theorem cmX2_init : ex_cm mX2_init 0 := ⟨(ex_tw 76 (by rfl) rfl), (ex_tw 5 (by rfl) rfl), ⟨(by decide +kernel), (by decide +kernel), (by decide +kernel)⟩, (by decide +kernel)⟩
theorem cmX3_init : ex_cm mX3_init 0 := ⟨(ex_tw 110 (by rfl) rfl), (ex_tw 6 (by rfl) rfl), ⟨(by decide +kernel), (by decide +kernel), (by decide +kernel)⟩, (by decide +kernel)⟩
theorem cmX0_init : ex_cm mX0_init 0 := ⟨(ex_tw 130 (by rfl) rfl), (ex_tw 7 (by rfl) rfl), ⟨(by decide +kernel), (by decide +kernel), (by decide +kernel)⟩, (by decide +kernel)⟩
theorem cmX8_init : ex_cm mX8_init 0 := ⟨(ex_tw 150 (by rfl) rfl), (ex_tw 8 (by rfl) rfl), ⟨(by decide +kernel), (by decide +kernel), (by decide +kernel)⟩, (by decide +kernel)⟩
theorem cmX9_feed : ex_cm mX9_feed 1 := ⟨(ex_tw 199 (by rfl) rfl), (ex_tw 1 (by rfl) rfl), ⟨(by decide +kernel), (by decide +kernel), (by decide +kernel)⟩, (by decide +kernel)⟩
theorem cmX9_within : ex_cm mX9_within 3 := ⟨(ex_tw 202 (by rfl) rfl), (ex_tw 1 (by rfl) rfl), ⟨(by decide +kernel), (by decide +kernel), (by decide +kernel)⟩, (by decide +kernel)⟩
theorem cmX7_append : ex_cm mX7_append 1 := ⟨(ex_tw 207 (by rfl) rfl), (ex_tw 2 (by rfl) rfl), ⟨(by decide +kernel), (by decide +kernel), (by decide +kernel)⟩, (by decide +kernel)⟩
theorem cmX9_picture : ex_cm mX9_picture 0 := ⟨(ex_tw 212 (by rfl) rfl), (ex_tw 1 (by rfl) rfl), ⟨(by decide +kernel), (by decide +kernel), (by decide +kernel)⟩, (by decide +kernel)⟩
theorem cmX7_readInto : ex_cm mX7_readInto 1 := ⟨(ex_tw 216 (by rfl) rfl), (ex_tw 2 (by rfl) rfl), ⟨(by decide +kernel), (by decide +kernel), (by decide +kernel)⟩, (by decide +kernel)⟩
theorem cmX5_init : ex_cm mX5_init 1 := ⟨(ex_tw 221 (by rfl) rfl), (ex_tw 10 (by rfl) rfl), ⟨(by decide +kernel), (by decide +kernel), (by decide +kernel)⟩, (by decide +kernel)⟩
theorem cmX5_take : ex_cm mX5_take 1 := ⟨(ex_tw 245 (by rfl) rfl), (ex_tw 10 (by rfl) rfl), ⟨(by decide +kernel), (by decide +kernel), (by decide +kernel)⟩, (by decide +kernel)⟩
theorem cmX5_takeRowEnd : ex_cm mX5_takeRowEnd 1 := ⟨(ex_tw 249 (by rfl) rfl), (ex_tw 10 (by rfl) rfl), ⟨(by decide +kernel), (by decide +kernel), (by decide +kernel)⟩, (by decide +kernel)⟩
theorem cmX4_setSize : ex_cm mX4_setSize 2 := ⟨(ex_tw 253 (by rfl) rfl), (ex_tw 4 (by rfl) rfl), ⟨(by decide +kernel), (by decide +kernel), (by decide +kernel)⟩, (by decide +kernel)⟩
theorem cmX5_signOf : ex_cm mX5_signOf 1 := ⟨(ex_tw 257 (by rfl) rfl), (ex_tw 10 (by rfl) rfl), ⟨(by decide +kernel), (by decide +kernel), (by decide +kernel)⟩, (by decide +kernel)⟩
theorem cmX5_takeFirstSign : ex_cm mX5_takeFirstSign 1 := ⟨(ex_tw 262 (by rfl) rfl), (ex_tw 10 (by rfl) rfl), ⟨(by decide +kernel), (by decide +kernel), (by decide +kernel)⟩, (by decide +kernel)⟩
theorem cmX5_takeSecondSign : ex_cm mX5_takeSecondSign 1 := ⟨(ex_tw 266 (by rfl) rfl), (ex_tw 10 (by rfl) rfl), ⟨(by decide +kernel), (by decide +kernel), (by decide +kernel)⟩, (by decide +kernel)⟩
theorem cmX4_setInOrder : ex_cm mX4_setInOrder 3 := ⟨(ex_tw 270 (by rfl) rfl), (ex_tw 4 (by rfl) rfl), ⟨(by decide +kernel), (by decide +kernel), (by decide +kernel)⟩, (by decide +kernel)⟩
theorem cmX7_placeRead : ex_cm mX7_placeRead 0 := ⟨(ex_tw 275 (by rfl) rfl), (ex_tw 2 (by rfl) rfl), ⟨(by decide +kernel), (by decide +kernel), (by decide +kernel)⟩, (by decide +kernel)⟩
theorem cmX7_clear : ex_cm mX7_clear 0 := ⟨(ex_tw 279 (by rfl) rfl), (ex_tw 2 (by rfl) rfl), ⟨(by decide +kernel), (by decide +kernel), (by decide +kernel)⟩, (by decide +kernel)⟩
theorem cmX3_remember : ex_cm mX3_remember 1 := ⟨(ex_tw 283 (by rfl) rfl), (ex_tw 6 (by rfl) rfl), ⟨(by decide +kernel), (by decide +kernel), (by decide +kernel)⟩, (by decide +kernel)⟩
theorem cmX4_become : ex_cm mX4_become 1 := ⟨(ex_tw 287 (by rfl) rfl), (ex_tw 4 (by rfl) rfl), ⟨(by decide +kernel), (by decide +kernel), (by decide +kernel)⟩, (by decide +kernel)⟩
theorem cmX4_dots : ex_cm mX4_dots 0 := ⟨(ex_tw 292 (by rfl) rfl), (ex_tw 4 (by rfl) rfl), ⟨(by decide +kernel), (by decide +kernel), (by decide +kernel)⟩, (by decide +kernel)⟩
theorem cmX9_fault : ex_cm mX9_fault 0 := ⟨(ex_tw 298 (by rfl) rfl), (ex_tw 1 (by rfl) rfl), ⟨(by decide +kernel), (by decide +kernel), (by decide +kernel)⟩, (by decide +kernel)⟩
theorem cmX9_told : ex_cm mX9_told 1 := ⟨(ex_tw 302 (by rfl) rfl), (ex_tw 1 (by rfl) rfl), ⟨(by decide +kernel), (by decide +kernel), (by decide +kernel)⟩, (by decide +kernel)⟩
theorem cmX4_maskedDots : ex_cm mX4_maskedDots 0 := ⟨(ex_tw 306 (by rfl) rfl), (ex_tw 4 (by rfl) rfl), ⟨(by decide +kernel), (by decide +kernel), (by decide +kernel)⟩, (by decide +kernel)⟩
theorem cmX4_leastGrey : ex_cm mX4_leastGrey 0 := ⟨(ex_tw 310 (by rfl) rfl), (ex_tw 4 (by rfl) rfl), ⟨(by decide +kernel), (by decide +kernel), (by decide +kernel)⟩, (by decide +kernel)⟩
theorem cmX4_greatestGrey : ex_cm mX4_greatestGrey 0 := ⟨(ex_tw 314 (by rfl) rfl), (ex_tw 4 (by rfl) rfl), ⟨(by decide +kernel), (by decide +kernel), (by decide +kernel)⟩, (by decide +kernel)⟩
theorem cmX4_greysTogether : ex_cm mX4_greysTogether 0 := ⟨(ex_tw 318 (by rfl) rfl), (ex_tw 4 (by rfl) rfl), ⟨(by decide +kernel), (by decide +kernel), (by decide +kernel)⟩, (by decide +kernel)⟩
theorem cmX0_firstWrong : ex_cm mX0_firstWrong 1 := ⟨(ex_tw 322 (by rfl) rfl), (ex_tw 7 (by rfl) rfl), ⟨(by decide +kernel), (by decide +kernel), (by decide +kernel)⟩, (by decide +kernel)⟩
theorem cmX4_has : ex_cm mX4_has 2 := ⟨(ex_tw 326 (by rfl) rfl), (ex_tw 4 (by rfl) rfl), ⟨(by decide +kernel), (by decide +kernel), (by decide +kernel)⟩, (by decide +kernel)⟩
theorem cmX4_greyOf : ex_cm mX4_greyOf 2 := ⟨(ex_tw 330 (by rfl) rfl), (ex_tw 4 (by rfl) rfl), ⟨(by decide +kernel), (by decide +kernel), (by decide +kernel)⟩, (by decide +kernel)⟩
theorem cmX9_at : ex_cm mX9_at 3 := ⟨(ex_tw 335 (by rfl) rfl), (ex_tw 1 (by rfl) rfl), ⟨(by decide +kernel), (by decide +kernel), (by decide +kernel)⟩, (by decide +kernel)⟩
theorem cmX4_isMasked : ex_cm mX4_isMasked 2 := ⟨(ex_tw 342 (by rfl) rfl), (ex_tw 4 (by rfl) rfl), ⟨(by decide +kernel), (by decide +kernel), (by decide +kernel)⟩, (by decide +kernel)⟩
theorem cmX9_tally : ex_cm mX9_tally 5 := ⟨(ex_tw 346 (by rfl) rfl), (ex_tw 1 (by rfl) rfl), ⟨(by decide +kernel), (by decide +kernel), (by decide +kernel)⟩, (by decide +kernel)⟩
theorem cmX4_dotsUpTo : ex_cm mX4_dotsUpTo 5 := ⟨(ex_tw 350 (by rfl) rfl), (ex_tw 4 (by rfl) rfl), ⟨(by decide +kernel), (by decide +kernel), (by decide +kernel)⟩, (by decide +kernel)⟩
theorem cmX9_filter : ex_cm mX9_filter 5 := ⟨(ex_tw 356 (by rfl) rfl), (ex_tw 1 (by rfl) rfl), ⟨(by decide +kernel), (by decide +kernel), (by decide +kernel)⟩, (by decide +kernel)⟩
theorem cmX2_isFull : ex_cm mX2_isFull 0 := ⟨(ex_tw 360 (by rfl) rfl), (ex_tw 5 (by rfl) rfl), ⟨(by decide +kernel), (by decide +kernel), (by decide +kernel)⟩, (by decide +kernel)⟩
theorem cmX1_init : ex_cm mX1_init 5 := ⟨(ex_tw 366 (by rfl) rfl), (ex_tw 11 (by rfl) rfl), ⟨(by decide +kernel), (by decide +kernel), (by decide +kernel)⟩, (by decide +kernel)⟩
theorem cmX2_add : ex_cm mX2_add 1 := ⟨(ex_tw 392 (by rfl) rfl), (ex_tw 5 (by rfl) rfl), ⟨(by decide +kernel), (by decide +kernel), (by decide +kernel)⟩, (by decide +kernel)⟩
theorem cmX9_drop : ex_cm mX9_drop 1 := ⟨(ex_tw 398 (by rfl) rfl), (ex_tw 1 (by rfl) rfl), ⟨(by decide +kernel), (by decide +kernel), (by decide +kernel)⟩, (by decide +kernel)⟩
set_option maxRecDepth 20000 in
theorem cmX2_numbered : ex_cm mX2_numbered 1 := ⟨(ex_tw 402 (by rfl) rfl), (ex_tw 5 (by rfl) rfl), ⟨(by decide +kernel), (by decide +kernel), (by decide +kernel)⟩, (by decide +kernel)⟩
set_option maxRecDepth 20000 in
theorem cmX2_remove : ex_cm mX2_remove 1 := ⟨(ex_tw 407 (by rfl) rfl), (ex_tw 5 (by rfl) rfl), ⟨(by decide +kernel), (by decide +kernel), (by decide +kernel)⟩, (by decide +kernel)⟩
set_option maxRecDepth 20000 in
theorem cmX9_fill : ex_cm mX9_fill 1 := ⟨(ex_tw 412 (by rfl) rfl), (ex_tw 1 (by rfl) rfl), ⟨(by decide +kernel), (by decide +kernel), (by decide +kernel)⟩, (by decide +kernel)⟩
set_option maxRecDepth 20000 in
theorem cmX9_would : ex_cm mX9_would 4 := ⟨(ex_tw 416 (by rfl) rfl), (ex_tw 1 (by rfl) rfl), ⟨(by decide +kernel), (by decide +kernel), (by decide +kernel)⟩, (by decide +kernel)⟩
set_option maxRecDepth 20000 in
theorem cmX8_lookAt : ex_cm mX8_lookAt 5 := ⟨(ex_tw 420 (by rfl) rfl), (ex_tw 8 (by rfl) rfl), ⟨(by decide +kernel), (by decide +kernel), (by decide +kernel)⟩, (by decide +kernel)⟩
set_option maxRecDepth 20000 in
theorem cmJ7_fill_53178 : ex_cm mJ7_fill_53178 2 := ⟨(ex_tw 423 (by rfl) rfl), (ex_tw 12 (by rfl) rfl), ⟨(by decide +kernel), (by decide +kernel), (by decide +kernel)⟩, (by decide +kernel)⟩
set_option maxRecDepth 20000 in
theorem cmX8_standingFor : ex_cm mX8_standingFor 3 := ⟨(ex_tw 426 (by rfl) rfl), (ex_tw 8 (by rfl) rfl), ⟨(by decide +kernel), (by decide +kernel), (by decide +kernel)⟩, (by decide +kernel)⟩
set_option maxRecDepth 20000 in
theorem cmJ9_floorMod_7cf53 : ex_cm mJ9_floorMod_7cf53 2 := ⟨(ex_tw 430 (by rfl) rfl), (ex_tw 13 (by rfl) rfl), ⟨(by decide +kernel), (by decide +kernel), (by decide +kernel)⟩, (by decide +kernel)⟩
set_option maxRecDepth 20000 in
theorem cmJ9_min_7cf53 : ex_cm mJ9_min_7cf53 2 := ⟨(ex_tw 433 (by rfl) rfl), (ex_tw 13 (by rfl) rfl), ⟨(by decide +kernel), (by decide +kernel), (by decide +kernel)⟩, (by decide +kernel)⟩
set_option maxRecDepth 20000 in
theorem cmX8_countRow : ex_cm mX8_countRow 5 := ⟨(ex_tw 437 (by rfl) rfl), (ex_tw 8 (by rfl) rfl), ⟨(by decide +kernel), (by decide +kernel), (by decide +kernel)⟩, (by decide +kernel)⟩
set_option maxRecDepth 20000 in
theorem cmX8_count : ex_cm mX8_count 2 := ⟨(ex_tw 441 (by rfl) rfl), (ex_tw 8 (by rfl) rfl), ⟨(by decide +kernel), (by decide +kernel), (by decide +kernel)⟩, (by decide +kernel)⟩
set_option maxRecDepth 20000 in
theorem cmX8_ranked : ex_cm mX8_ranked 1 := ⟨(ex_tw 447 (by rfl) rfl), (ex_tw 8 (by rfl) rfl), ⟨(by decide +kernel), (by decide +kernel), (by decide +kernel)⟩, (by decide +kernel)⟩
set_option maxRecDepth 20000 in
theorem cmX8_countedBelow : ex_cm mX8_countedBelow 1 := ⟨(ex_tw 451 (by rfl) rfl), (ex_tw 8 (by rfl) rfl), ⟨(by decide +kernel), (by decide +kernel), (by decide +kernel)⟩, (by decide +kernel)⟩
set_option maxRecDepth 20000 in
theorem cmX8_spread : ex_cm mX8_spread 0 := ⟨(ex_tw 455 (by rfl) rfl), (ex_tw 8 (by rfl) rfl), ⟨(by decide +kernel), (by decide +kernel), (by decide +kernel)⟩, (by decide +kernel)⟩
set_option maxRecDepth 20000 in
theorem cmX9_bins : ex_cm mX9_bins 1 := ⟨(ex_tw 460 (by rfl) rfl), (ex_tw 1 (by rfl) rfl), ⟨(by decide +kernel), (by decide +kernel), (by decide +kernel)⟩, (by decide +kernel)⟩
set_option maxRecDepth 20000 in
theorem cmX9_lastOf : ex_cm mX9_lastOf 3 := ⟨(ex_tw 464 (by rfl) rfl), (ex_tw 1 (by rfl) rfl), ⟨(by decide +kernel), (by decide +kernel), (by decide +kernel)⟩, (by decide +kernel)⟩
set_option maxRecDepth 20000 in
theorem cmX9_spikes : ex_cm mX9_spikes 2 := ⟨(ex_tw 468 (by rfl) rfl), (ex_tw 1 (by rfl) rfl), ⟨(by decide +kernel), (by decide +kernel), (by decide +kernel)⟩, (by decide +kernel)⟩
set_option maxRecDepth 20000 in
theorem cmJ9_abs_0f7a4 : ex_cm mJ9_abs_0f7a4 1 := ⟨(ex_tw 471 (by rfl) rfl), (ex_tw 13 (by rfl) rfl), ⟨(by decide +kernel), (by decide +kernel), (by decide +kernel)⟩, (by decide +kernel)⟩
set_option maxRecDepth 20000 in
theorem cmX9_dot : ex_cm mX9_dot 3 := ⟨(ex_tw 475 (by rfl) rfl), (ex_tw 1 (by rfl) rfl), ⟨(by decide +kernel), (by decide +kernel), (by decide +kernel)⟩, (by decide +kernel)⟩
set_option maxRecDepth 20000 in
theorem cmX4_setGrey : ex_cm mX4_setGrey 3 := ⟨(ex_tw 479 (by rfl) rfl), (ex_tw 4 (by rfl) rfl), ⟨(by decide +kernel), (by decide +kernel), (by decide +kernel)⟩, (by decide +kernel)⟩
set_option maxRecDepth 20000 in
theorem cmX9_mask : ex_cm mX9_mask 3 := ⟨(ex_tw 483 (by rfl) rfl), (ex_tw 1 (by rfl) rfl), ⟨(by decide +kernel), (by decide +kernel), (by decide +kernel)⟩, (by decide +kernel)⟩
set_option maxRecDepth 20000 in
theorem cmX4_setMasked : ex_cm mX4_setMasked 3 := ⟨(ex_tw 487 (by rfl) rfl), (ex_tw 4 (by rfl) rfl), ⟨(by decide +kernel), (by decide +kernel), (by decide +kernel)⟩, (by decide +kernel)⟩
set_option maxRecDepth 20000 in
theorem cmX9_turn : ex_cm mX9_turn 1 := ⟨(ex_tw 491 (by rfl) rfl), (ex_tw 1 (by rfl) rfl), ⟨(by decide +kernel), (by decide +kernel), (by decide +kernel)⟩, (by decide +kernel)⟩
set_option maxRecDepth 20000 in
theorem cmX4_becomeTurned : ex_cm mX4_becomeTurned 2 := ⟨(ex_tw 496 (by rfl) rfl), (ex_tw 4 (by rfl) rfl), ⟨(by decide +kernel), (by decide +kernel), (by decide +kernel)⟩, (by decide +kernel)⟩
set_option maxRecDepth 20000 in
theorem cmX9_filtered : ex_cm mX9_filtered 1 := ⟨(ex_tw 502 (by rfl) rfl), (ex_tw 1 (by rfl) rfl), ⟨(by decide +kernel), (by decide +kernel), (by decide +kernel)⟩, (by decide +kernel)⟩
set_option maxRecDepth 20000 in
theorem cmX9_apply : ex_cm mX9_apply 1 := ⟨(ex_tw 506 (by rfl) rfl), (ex_tw 1 (by rfl) rfl), ⟨(by decide +kernel), (by decide +kernel), (by decide +kernel)⟩, (by decide +kernel)⟩
set_option maxRecDepth 20000 in
theorem cmX4_greysOtherThan : ex_cm mX4_greysOtherThan 1 := ⟨(ex_tw 510 (by rfl) rfl), (ex_tw 4 (by rfl) rfl), ⟨(by decide +kernel), (by decide +kernel), (by decide +kernel)⟩, (by decide +kernel)⟩
set_option maxRecDepth 20000 in
theorem cmX9_all : ex_cm mX9_all 0 := ⟨(ex_tw 514 (by rfl) rfl), (ex_tw 1 (by rfl) rfl), ⟨(by decide +kernel), (by decide +kernel), (by decide +kernel)⟩, (by decide +kernel)⟩
set_option maxRecDepth 20000 in
theorem cmX9_until : ex_cm mX9_until 2 := ⟨(ex_tw 518 (by rfl) rfl), (ex_tw 1 (by rfl) rfl), ⟨(by decide +kernel), (by decide +kernel), (by decide +kernel)⟩, (by decide +kernel)⟩
set_option maxRecDepth 20000 in
theorem cmX9_noise : ex_cm mX9_noise 1 := ⟨(ex_tw 522 (by rfl) rfl), (ex_tw 1 (by rfl) rfl), ⟨(by decide +kernel), (by decide +kernel), (by decide +kernel)⟩, (by decide +kernel)⟩
set_option maxRecDepth 20000 in
theorem cmX6_speckle : ex_cm mX6_speckle 0 := ⟨(ex_tw 526 (by rfl) rfl), (ex_tw 3 (by rfl) rfl), ⟨(by decide +kernel), (by decide +kernel), (by decide +kernel)⟩, (by decide +kernel)⟩
set_option maxRecDepth 20000 in
theorem cmX6_draw : ex_cm mX6_draw 1 := ⟨(ex_tw 530 (by rfl) rfl), (ex_tw 3 (by rfl) rfl), ⟨(by decide +kernel), (by decide +kernel), (by decide +kernel)⟩, (by decide +kernel)⟩
set_option maxRecDepth 20000 in
theorem cmX9_undo : ex_cm mX9_undo 1 := ⟨(ex_tw 539 (by rfl) rfl), (ex_tw 1 (by rfl) rfl), ⟨(by decide +kernel), (by decide +kernel), (by decide +kernel)⟩, (by decide +kernel)⟩
set_option maxRecDepth 20000 in
theorem cmX3_takeBack : ex_cm mX3_takeBack 2 := ⟨(ex_tw 543 (by rfl) rfl), (ex_tw 6 (by rfl) rfl), ⟨(by decide +kernel), (by decide +kernel), (by decide +kernel)⟩, (by decide +kernel)⟩
set_option maxRecDepth 20000 in
theorem cmX9_write : ex_cm mX9_write 3 := ⟨(ex_tw 548 (by rfl) rfl), (ex_tw 1 (by rfl) rfl), ⟨(by decide +kernel), (by decide +kernel), (by decide +kernel)⟩, (by decide +kernel)⟩
set_option maxRecDepth 20000 in
theorem cmX0_add : ex_cm mX0_add 3 := ⟨(ex_tw 552 (by rfl) rfl), (ex_tw 7 (by rfl) rfl), ⟨(by decide +kernel), (by decide +kernel), (by decide +kernel)⟩, (by decide +kernel)⟩
set_option maxRecDepth 20000 in
theorem cmX9_tear : ex_cm mX9_tear 0 := ⟨(ex_tw 557 (by rfl) rfl), (ex_tw 1 (by rfl) rfl), ⟨(by decide +kernel), (by decide +kernel), (by decide +kernel)⟩, (by decide +kernel)⟩
set_option maxRecDepth 20000 in
theorem cmX9_seed : ex_cm mX9_seed 1 := ⟨(ex_tw 561 (by rfl) rfl), (ex_tw 1 (by rfl) rfl), ⟨(by decide +kernel), (by decide +kernel), (by decide +kernel)⟩, (by decide +kernel)⟩
set_option maxRecDepth 20000 in
theorem cmX9_keep : ex_cm mX9_keep 1 := ⟨(ex_tw 565 (by rfl) rfl), (ex_tw 1 (by rfl) rfl), ⟨(by decide +kernel), (by decide +kernel), (by decide +kernel)⟩, (by decide +kernel)⟩
set_option maxRecDepth 20000 in
theorem cmX6_become : ex_cm mX6_become 1 := ⟨(ex_tw 569 (by rfl) rfl), (ex_tw 3 (by rfl) rfl), ⟨(by decide +kernel), (by decide +kernel), (by decide +kernel)⟩, (by decide +kernel)⟩
set_option maxRecDepth 20000 in
theorem cmX2_become : ex_cm mX2_become 1 := ⟨(ex_tw 574 (by rfl) rfl), (ex_tw 5 (by rfl) rfl), ⟨(by decide +kernel), (by decide +kernel), (by decide +kernel)⟩, (by decide +kernel)⟩
set_option maxRecDepth 20000 in
theorem cmX3_forget : ex_cm mX3_forget 0 := ⟨(ex_tw 578 (by rfl) rfl), (ex_tw 6 (by rfl) rfl), ⟨(by decide +kernel), (by decide +kernel), (by decide +kernel)⟩, (by decide +kernel)⟩
set_option maxRecDepth 20000 in
theorem cmX9_goBack : ex_cm mX9_goBack 1 := ⟨(ex_tw 582 (by rfl) rfl), (ex_tw 1 (by rfl) rfl), ⟨(by decide +kernel), (by decide +kernel), (by decide +kernel)⟩, (by decide +kernel)⟩
set_option maxRecDepth 20000 in
theorem cmX9_against : ex_cm mX9_against 1 := ⟨(ex_tw 586 (by rfl) rfl), (ex_tw 1 (by rfl) rfl), ⟨(by decide +kernel), (by decide +kernel), (by decide +kernel)⟩, (by decide +kernel)⟩
set_option maxRecDepth 20000 in
theorem cmX4_dotsOtherThan : ex_cm mX4_dotsOtherThan 1 := ⟨(ex_tw 590 (by rfl) rfl), (ex_tw 4 (by rfl) rfl), ⟨(by decide +kernel), (by decide +kernel), (by decide +kernel)⟩, (by decide +kernel)⟩
set_option maxRecDepth 20000 in
theorem cmX10_init : ex_cm mX10_init 0 := ⟨(ex_tw 595 (by rfl) rfl), (ex_tw 9 (by rfl) rfl), ⟨(by decide +kernel), (by decide +kernel), (by decide +kernel)⟩, (by decide +kernel)⟩
set_option maxRecDepth 20000 in
theorem cmX10_feed : ex_cm mX10_feed 1 := ⟨(ex_tw 670 (by rfl) rfl), (ex_tw 9 (by rfl) rfl), ⟨(by decide +kernel), (by decide +kernel), (by decide +kernel)⟩, (by decide +kernel)⟩
set_option maxRecDepth 20000 in
theorem cmX10_in : ex_cm mX10_in 3 := ⟨(ex_tw 674 (by rfl) rfl), (ex_tw 9 (by rfl) rfl), ⟨(by decide +kernel), (by decide +kernel), (by decide +kernel)⟩, (by decide +kernel)⟩
set_option maxRecDepth 20000 in
theorem cmX10_picture : ex_cm mX10_picture 0 := ⟨(ex_tw 680 (by rfl) rfl), (ex_tw 9 (by rfl) rfl), ⟨(by decide +kernel), (by decide +kernel), (by decide +kernel)⟩, (by decide +kernel)⟩
set_option maxRecDepth 20000 in
theorem cmX10_readText : ex_cm mX10_readText 0 := ⟨(ex_tw 684 (by rfl) rfl), (ex_tw 9 (by rfl) rfl), ⟨(by decide +kernel), (by decide +kernel), (by decide +kernel)⟩, (by decide +kernel)⟩
set_option maxRecDepth 20000 in
theorem cmX10_faultOf : ex_cm mX10_faultOf 1 := ⟨(ex_tw 688 (by rfl) rfl), (ex_tw 9 (by rfl) rfl), ⟨(by decide +kernel), (by decide +kernel), (by decide +kernel)⟩, (by decide +kernel)⟩
set_option maxRecDepth 20000 in
theorem cmX10_faultOfBreak : ex_cm mX10_faultOfBreak 0 := ⟨(ex_tw 692 (by rfl) rfl), (ex_tw 9 (by rfl) rfl), ⟨(by decide +kernel), (by decide +kernel), (by decide +kernel)⟩, (by decide +kernel)⟩
set_option maxRecDepth 20000 in
theorem cmX10_isShort : ex_cm mX10_isShort 0 := ⟨(ex_tw 696 (by rfl) rfl), (ex_tw 9 (by rfl) rfl), ⟨(by decide +kernel), (by decide +kernel), (by decide +kernel)⟩, (by decide +kernel)⟩
set_option maxRecDepth 20000 in
theorem cmX10_figure : ex_cm mX10_figure 1 := ⟨(ex_tw 699 (by rfl) rfl), (ex_tw 9 (by rfl) rfl), ⟨(by decide +kernel), (by decide +kernel), (by decide +kernel)⟩, (by decide +kernel)⟩
set_option maxRecDepth 20000 in
theorem cmX10_goOn : ex_cm mX10_goOn 1 := ⟨(ex_tw 707 (by rfl) rfl), (ex_tw 9 (by rfl) rfl), ⟨(by decide +kernel), (by decide +kernel), (by decide +kernel)⟩, (by decide +kernel)⟩
set_option maxRecDepth 20000 in
theorem cmX10_remember : ex_cm mX10_remember 0 := ⟨(ex_tw 711 (by rfl) rfl), (ex_tw 9 (by rfl) rfl), ⟨(by decide +kernel), (by decide +kernel), (by decide +kernel)⟩, (by decide +kernel)⟩
set_option maxRecDepth 20000 in
theorem cmX10_copyRow : ex_cm mX10_copyRow 2 := ⟨(ex_tw 715 (by rfl) rfl), (ex_tw 9 (by rfl) rfl), ⟨(by decide +kernel), (by decide +kernel), (by decide +kernel)⟩, (by decide +kernel)⟩
set_option maxRecDepth 20000 in
theorem cmX10_layPicture : ex_cm mX10_layPicture 0 := ⟨(ex_tw 719 (by rfl) rfl), (ex_tw 9 (by rfl) rfl), ⟨(by decide +kernel), (by decide +kernel), (by decide +kernel)⟩, (by decide +kernel)⟩
set_option maxRecDepth 20000 in
theorem cmX10_place : ex_cm mX10_place 2 := ⟨(ex_tw 723 (by rfl) rfl), (ex_tw 9 (by rfl) rfl), ⟨(by decide +kernel), (by decide +kernel), (by decide +kernel)⟩, (by decide +kernel)⟩
set_option maxRecDepth 20000 in
theorem cmX10_fault : ex_cm mX10_fault 0 := ⟨(ex_tw 727 (by rfl) rfl), (ex_tw 9 (by rfl) rfl), ⟨(by decide +kernel), (by decide +kernel), (by decide +kernel)⟩, (by decide +kernel)⟩
set_option maxRecDepth 20000 in
theorem cmX10_told : ex_cm mX10_told 1 := ⟨(ex_tw 731 (by rfl) rfl), (ex_tw 9 (by rfl) rfl), ⟨(by decide +kernel), (by decide +kernel), (by decide +kernel)⟩, (by decide +kernel)⟩
set_option maxRecDepth 20000 in
theorem cmX10_masked : ex_cm mX10_masked 0 := ⟨(ex_tw 735 (by rfl) rfl), (ex_tw 9 (by rfl) rfl), ⟨(by decide +kernel), (by decide +kernel), (by decide +kernel)⟩, (by decide +kernel)⟩
set_option maxRecDepth 20000 in
theorem cmX10_isMasked : ex_cm mX10_isMasked 2 := ⟨(ex_tw 739 (by rfl) rfl), (ex_tw 9 (by rfl) rfl), ⟨(by decide +kernel), (by decide +kernel), (by decide +kernel)⟩, (by decide +kernel)⟩
set_option maxRecDepth 20000 in
theorem cmX10_ofGreys : ex_cm mX10_ofGreys 1 := ⟨(ex_tw 743 (by rfl) rfl), (ex_tw 9 (by rfl) rfl), ⟨(by decide +kernel), (by decide +kernel), (by decide +kernel)⟩, (by decide +kernel)⟩
set_option maxRecDepth 20000 in
theorem cmX10_grey : ex_cm mX10_grey 2 := ⟨(ex_tw 747 (by rfl) rfl), (ex_tw 9 (by rfl) rfl), ⟨(by decide +kernel), (by decide +kernel), (by decide +kernel)⟩, (by decide +kernel)⟩
set_option maxRecDepth 20000 in
theorem cmX10_wrong : ex_cm mX10_wrong 0 := ⟨(ex_tw 751 (by rfl) rfl), (ex_tw 9 (by rfl) rfl), ⟨(by decide +kernel), (by decide +kernel), (by decide +kernel)⟩, (by decide +kernel)⟩
set_option maxRecDepth 20000 in
theorem cmX10_isDot : ex_cm mX10_isDot 2 := ⟨(ex_tw 755 (by rfl) rfl), (ex_tw 9 (by rfl) rfl), ⟨(by decide +kernel), (by decide +kernel), (by decide +kernel)⟩, (by decide +kernel)⟩
set_option maxRecDepth 20000 in
theorem cmX10_at : ex_cm mX10_at 3 := ⟨(ex_tw 759 (by rfl) rfl), (ex_tw 9 (by rfl) rfl), ⟨(by decide +kernel), (by decide +kernel), (by decide +kernel)⟩, (by decide +kernel)⟩
set_option maxRecDepth 20000 in
theorem cmX10_tally : ex_cm mX10_tally 5 := ⟨(ex_tw 764 (by rfl) rfl), (ex_tw 9 (by rfl) rfl), ⟨(by decide +kernel), (by decide +kernel), (by decide +kernel)⟩, (by decide +kernel)⟩
set_option maxRecDepth 20000 in
theorem cmX10_filter : ex_cm mX10_filter 5 := ⟨(ex_tw 770 (by rfl) rfl), (ex_tw 9 (by rfl) rfl), ⟨(by decide +kernel), (by decide +kernel), (by decide +kernel)⟩, (by decide +kernel)⟩
set_option maxRecDepth 20000 in
theorem cmX10_drop : ex_cm mX10_drop 1 := ⟨(ex_tw 777 (by rfl) rfl), (ex_tw 9 (by rfl) rfl), ⟨(by decide +kernel), (by decide +kernel), (by decide +kernel)⟩, (by decide +kernel)⟩
set_option maxRecDepth 20000 in
theorem cmX10_isFilter : ex_cm mX10_isFilter 1 := ⟨(ex_tw 781 (by rfl) rfl), (ex_tw 9 (by rfl) rfl), ⟨(by decide +kernel), (by decide +kernel), (by decide +kernel)⟩, (by decide +kernel)⟩
set_option maxRecDepth 20000 in
theorem cmX10_fill : ex_cm mX10_fill 1 := ⟨(ex_tw 785 (by rfl) rfl), (ex_tw 9 (by rfl) rfl), ⟨(by decide +kernel), (by decide +kernel), (by decide +kernel)⟩, (by decide +kernel)⟩
set_option maxRecDepth 20000 in
theorem cmX10_would : ex_cm mX10_would 4 := ⟨(ex_tw 789 (by rfl) rfl), (ex_tw 9 (by rfl) rfl), ⟨(by decide +kernel), (by decide +kernel), (by decide +kernel)⟩, (by decide +kernel)⟩
set_option maxRecDepth 20000 in
theorem cmX10_lastOf : ex_cm mX10_lastOf 3 := ⟨(ex_tw 793 (by rfl) rfl), (ex_tw 9 (by rfl) rfl), ⟨(by decide +kernel), (by decide +kernel), (by decide +kernel)⟩, (by decide +kernel)⟩
set_option maxRecDepth 20000 in
theorem cmX10_layWindow : ex_cm mX10_layWindow 3 := ⟨(ex_tw 797 (by rfl) rfl), (ex_tw 9 (by rfl) rfl), ⟨(by decide +kernel), (by decide +kernel), (by decide +kernel)⟩, (by decide +kernel)⟩
set_option maxRecDepth 20000 in
theorem cmX10_part : ex_cm mX10_part 2 := ⟨(ex_tw 801 (by rfl) rfl), (ex_tw 9 (by rfl) rfl), ⟨(by decide +kernel), (by decide +kernel), (by decide +kernel)⟩, (by decide +kernel)⟩
set_option maxRecDepth 20000 in
theorem cmX10_countAt : ex_cm mX10_countAt 4 := ⟨(ex_tw 805 (by rfl) rfl), (ex_tw 9 (by rfl) rfl), ⟨(by decide +kernel), (by decide +kernel), (by decide +kernel)⟩, (by decide +kernel)⟩
set_option maxRecDepth 20000 in
theorem cmX10_countOut : ex_cm mX10_countOut 3 := ⟨(ex_tw 809 (by rfl) rfl), (ex_tw 9 (by rfl) rfl), ⟨(by decide +kernel), (by decide +kernel), (by decide +kernel)⟩, (by decide +kernel)⟩
set_option maxRecDepth 20000 in
theorem cmX10_count : ex_cm mX10_count 1 := ⟨(ex_tw 813 (by rfl) rfl), (ex_tw 9 (by rfl) rfl), ⟨(by decide +kernel), (by decide +kernel), (by decide +kernel)⟩, (by decide +kernel)⟩
set_option maxRecDepth 20000 in
theorem cmX10_standIn : ex_cm mX10_standIn 3 := ⟨(ex_tw 816 (by rfl) rfl), (ex_tw 9 (by rfl) rfl), ⟨(by decide +kernel), (by decide +kernel), (by decide +kernel)⟩, (by decide +kernel)⟩
set_option maxRecDepth 20000 in
theorem cmX10_leftOver : ex_cm mX10_leftOver 2 := ⟨(ex_tw 819 (by rfl) rfl), (ex_tw 9 (by rfl) rfl), ⟨(by decide +kernel), (by decide +kernel), (by decide +kernel)⟩, (by decide +kernel)⟩
set_option maxRecDepth 20000 in
theorem cmX10_below : ex_cm mX10_below 1 := ⟨(ex_tw 823 (by rfl) rfl), (ex_tw 9 (by rfl) rfl), ⟨(by decide +kernel), (by decide +kernel), (by decide +kernel)⟩, (by decide +kernel)⟩
set_option maxRecDepth 20000 in
theorem cmX10_bins : ex_cm mX10_bins 1 := ⟨(ex_tw 827 (by rfl) rfl), (ex_tw 9 (by rfl) rfl), ⟨(by decide +kernel), (by decide +kernel), (by decide +kernel)⟩, (by decide +kernel)⟩
set_option maxRecDepth 20000 in
theorem cmX10_spikes : ex_cm mX10_spikes 2 := ⟨(ex_tw 831 (by rfl) rfl), (ex_tw 9 (by rfl) rfl), ⟨(by decide +kernel), (by decide +kernel), (by decide +kernel)⟩, (by decide +kernel)⟩
set_option maxRecDepth 20000 in
theorem cmX10_dot : ex_cm mX10_dot 3 := ⟨(ex_tw 835 (by rfl) rfl), (ex_tw 9 (by rfl) rfl), ⟨(by decide +kernel), (by decide +kernel), (by decide +kernel)⟩, (by decide +kernel)⟩
set_option maxRecDepth 20000 in
theorem cmX10_setGrey : ex_cm mX10_setGrey 3 := ⟨(ex_tw 839 (by rfl) rfl), (ex_tw 9 (by rfl) rfl), ⟨(by decide +kernel), (by decide +kernel), (by decide +kernel)⟩, (by decide +kernel)⟩
set_option maxRecDepth 20000 in
theorem cmX10_mask : ex_cm mX10_mask 3 := ⟨(ex_tw 843 (by rfl) rfl), (ex_tw 9 (by rfl) rfl), ⟨(by decide +kernel), (by decide +kernel), (by decide +kernel)⟩, (by decide +kernel)⟩
set_option maxRecDepth 20000 in
theorem cmX10_turn : ex_cm mX10_turn 1 := ⟨(ex_tw 847 (by rfl) rfl), (ex_tw 9 (by rfl) rfl), ⟨(by decide +kernel), (by decide +kernel), (by decide +kernel)⟩, (by decide +kernel)⟩
set_option maxRecDepth 20000 in
theorem cmX10_turnedFrom : ex_cm mX10_turnedFrom 3 := ⟨(ex_tw 853 (by rfl) rfl), (ex_tw 9 (by rfl) rfl), ⟨(by decide +kernel), (by decide +kernel), (by decide +kernel)⟩, (by decide +kernel)⟩
set_option maxRecDepth 20000 in
theorem cmX10_filtered : ex_cm mX10_filtered 1 := ⟨(ex_tw 857 (by rfl) rfl), (ex_tw 9 (by rfl) rfl), ⟨(by decide +kernel), (by decide +kernel), (by decide +kernel)⟩, (by decide +kernel)⟩
set_option maxRecDepth 20000 in
theorem cmX10_applyNow : ex_cm mX10_applyNow 1 := ⟨(ex_tw 861 (by rfl) rfl), (ex_tw 9 (by rfl) rfl), ⟨(by decide +kernel), (by decide +kernel), (by decide +kernel)⟩, (by decide +kernel)⟩
set_option maxRecDepth 20000 in
theorem cmX10_all : ex_cm mX10_all 0 := ⟨(ex_tw 865 (by rfl) rfl), (ex_tw 9 (by rfl) rfl), ⟨(by decide +kernel), (by decide +kernel), (by decide +kernel)⟩, (by decide +kernel)⟩
set_option maxRecDepth 20000 in
theorem cmX10_until : ex_cm mX10_until 2 := ⟨(ex_tw 869 (by rfl) rfl), (ex_tw 9 (by rfl) rfl), ⟨(by decide +kernel), (by decide +kernel), (by decide +kernel)⟩, (by decide +kernel)⟩
set_option maxRecDepth 20000 in
theorem cmX10_noise : ex_cm mX10_noise 1 := ⟨(ex_tw 874 (by rfl) rfl), (ex_tw 9 (by rfl) rfl), ⟨(by decide +kernel), (by decide +kernel), (by decide +kernel)⟩, (by decide +kernel)⟩
set_option maxRecDepth 20000 in
theorem cmX10_draw : ex_cm mX10_draw 1 := ⟨(ex_tw 879 (by rfl) rfl), (ex_tw 9 (by rfl) rfl), ⟨(by decide +kernel), (by decide +kernel), (by decide +kernel)⟩, (by decide +kernel)⟩
set_option maxRecDepth 20000 in
theorem cmX10_undo : ex_cm mX10_undo 1 := ⟨(ex_tw 887 (by rfl) rfl), (ex_tw 9 (by rfl) rfl), ⟨(by decide +kernel), (by decide +kernel), (by decide +kernel)⟩, (by decide +kernel)⟩
set_option maxRecDepth 20000 in
theorem cmX10_write : ex_cm mX10_write 3 := ⟨(ex_tw 892 (by rfl) rfl), (ex_tw 9 (by rfl) rfl), ⟨(by decide +kernel), (by decide +kernel), (by decide +kernel)⟩, (by decide +kernel)⟩
set_option maxRecDepth 20000 in
theorem cmX10_tear : ex_cm mX10_tear 0 := ⟨(ex_tw 896 (by rfl) rfl), (ex_tw 9 (by rfl) rfl), ⟨(by decide +kernel), (by decide +kernel), (by decide +kernel)⟩, (by decide +kernel)⟩
set_option maxRecDepth 20000 in
theorem cmX10_seed : ex_cm mX10_seed 1 := ⟨(ex_tw 900 (by rfl) rfl), (ex_tw 9 (by rfl) rfl), ⟨(by decide +kernel), (by decide +kernel), (by decide +kernel)⟩, (by decide +kernel)⟩
set_option maxRecDepth 20000 in
theorem cmX10_keep : ex_cm mX10_keep 1 := ⟨(ex_tw 904 (by rfl) rfl), (ex_tw 9 (by rfl) rfl), ⟨(by decide +kernel), (by decide +kernel), (by decide +kernel)⟩, (by decide +kernel)⟩
set_option maxRecDepth 20000 in
theorem cmX10_goBack : ex_cm mX10_goBack 1 := ⟨(ex_tw 908 (by rfl) rfl), (ex_tw 9 (by rfl) rfl), ⟨(by decide +kernel), (by decide +kernel), (by decide +kernel)⟩, (by decide +kernel)⟩
set_option maxRecDepth 20000 in
theorem cmX10_isKept : ex_cm mX10_isKept 1 := ⟨(ex_tw 912 (by rfl) rfl), (ex_tw 9 (by rfl) rfl), ⟨(by decide +kernel), (by decide +kernel), (by decide +kernel)⟩, (by decide +kernel)⟩
set_option maxRecDepth 20000 in
theorem cmX10_against : ex_cm mX10_against 1 := ⟨(ex_tw 916 (by rfl) rfl), (ex_tw 9 (by rfl) rfl), ⟨(by decide +kernel), (by decide +kernel), (by decide +kernel)⟩, (by decide +kernel)⟩
theorem fX7_9 : ex_F RX7 9 7 0 .int false := ⟨RX7, TX7, 3, tyX7, rfl, (by decide +kernel), igX7, tyX7_ok, nmX7, rfl, rfl, rfl, (ex_tw 28 (by rfl) rfl)⟩
theorem fX9_117 : ex_F RX9 117 7 0 .int false := ⟨RX7, TX7, 3, tyX7, rfl, (by decide +kernel), igX7, tyX7_ok, nmX7, rfl, rfl, rfl, (ex_tw 29 (by rfl) rfl)⟩
theorem fX7_15 : ex_F RX7 15 7 1 (.array .int) true := ⟨RX7, TX7, 3, tyX7, rfl, (by decide +kernel), igX7, tyX7_ok, nmX7, rfl, rfl, rfl, (ex_tw 30 (by rfl) rfl)⟩
theorem fX7_19 : ex_F RX7 19 7 2 .int false := ⟨RX7, TX7, 3, tyX7, rfl, (by decide +kernel), igX7, tyX7_ok, nmX7, rfl, rfl, rfl, (ex_tw 31 (by rfl) rfl)⟩
theorem fX4_9 : ex_F RX4 9 4 0 .int false := ⟨RX4, TX4, 4, tyX4, rfl, (by decide +kernel), igX4, tyX4_ok, nmX4, rfl, rfl, rfl, (ex_tw 52 (by rfl) rfl)⟩
theorem fX6_39 : ex_F RX6 39 4 0 .int false := ⟨RX4, TX4, 4, tyX4, rfl, (by decide +kernel), igX4, tyX4_ok, nmX4, rfl, rfl, rfl, (ex_tw 53 (by rfl) rfl)⟩
theorem fX9_99 : ex_F RX9 99 4 0 .int false := ⟨RX4, TX4, 4, tyX4, rfl, (by decide +kernel), igX4, tyX4_ok, nmX4, rfl, rfl, rfl, (ex_tw 54 (by rfl) rfl)⟩
theorem fX8_71 : ex_F RX8 71 4 0 .int false := ⟨RX4, TX4, 4, tyX4, rfl, (by decide +kernel), igX4, tyX4_ok, nmX4, rfl, rfl, rfl, (ex_tw 55 (by rfl) rfl)⟩
theorem fX4_15 : ex_F RX4 15 4 1 .int false := ⟨RX4, TX4, 4, tyX4, rfl, (by decide +kernel), igX4, tyX4_ok, nmX4, rfl, rfl, rfl, (ex_tw 56 (by rfl) rfl)⟩
theorem fX8_33 : ex_F RX8 33 4 1 .int false := ⟨RX4, TX4, 4, tyX4, rfl, (by decide +kernel), igX4, tyX4_ok, nmX4, rfl, rfl, rfl, (ex_tw 57 (by rfl) rfl)⟩
theorem fX6_46 : ex_F RX6 46 4 1 .int false := ⟨RX4, TX4, 4, tyX4, rfl, (by decide +kernel), igX4, tyX4_ok, nmX4, rfl, rfl, rfl, (ex_tw 58 (by rfl) rfl)⟩
theorem fX9_102 : ex_F RX9 102 4 1 .int false := ⟨RX4, TX4, 4, tyX4, rfl, (by decide +kernel), igX4, tyX4_ok, nmX4, rfl, rfl, rfl, (ex_tw 59 (by rfl) rfl)⟩
theorem fX4_18 : ex_F RX4 18 4 2 (.array .int) true := ⟨RX4, TX4, 4, tyX4, rfl, (by decide +kernel), igX4, tyX4_ok, nmX4, rfl, rfl, rfl, (ex_tw 60 (by rfl) rfl)⟩
theorem fX4_22 : ex_F RX4 22 4 3 (.array .boolean) true := ⟨RX4, TX4, 4, tyX4, rfl, (by decide +kernel), igX4, tyX4_ok, nmX4, rfl, rfl, rfl, (ex_tw 61 (by rfl) rfl)⟩
theorem fX2_9 : ex_F RX2 9 2 0 .int false := ⟨RX2, TX2, 2, tyX2, rfl, (by decide +kernel), igX2, tyX2_ok, nmX2, rfl, rfl, rfl, (ex_tw 80 (by rfl) rfl)⟩
theorem fX9_124 : ex_F RX9 124 2 0 .int false := ⟨RX2, TX2, 2, tyX2, rfl, (by decide +kernel), igX2, tyX2_ok, nmX2, rfl, rfl, rfl, (ex_tw 81 (by rfl) rfl)⟩
theorem fX2_17 : ex_F RX2 17 2 1 (.array (.object "TalliedWindows$Filter")) true := ⟨RX2, TX2, 2, tyX2, rfl, (by decide +kernel), igX2, tyX2_ok, nmX2, rfl, rfl, rfl, (ex_tw 82 (by rfl) rfl)⟩
theorem fX6_12 : ex_F RX6 12 6 0 (.object "TalliedWindows$Picture") true := ⟨RX6, TX6, 4, tyX6, rfl, (by decide +kernel), igX6, tyX6_ok, nmX6, rfl, rfl, rfl, (ex_tw 88 (by rfl) rfl)⟩
theorem fX9_86 : ex_F RX9 86 6 0 (.object "TalliedWindows$Picture") true := ⟨RX6, TX6, 4, tyX6, rfl, (by decide +kernel), igX6, tyX6_ok, nmX6, rfl, rfl, rfl, (ex_tw 89 (by rfl) rfl)⟩
theorem fX6_21 : ex_F RX6 21 6 1 (.object "TalliedWindows$Filters") true := ⟨RX6, TX6, 4, tyX6, rfl, (by decide +kernel), igX6, tyX6_ok, nmX6, rfl, rfl, rfl, (ex_tw 90 (by rfl) rfl)⟩
theorem fX9_120 : ex_F RX9 120 6 1 (.object "TalliedWindows$Filters") true := ⟨RX6, TX6, 4, tyX6, rfl, (by decide +kernel), igX6, tyX6_ok, nmX6, rfl, rfl, rfl, (ex_tw 91 (by rfl) rfl)⟩
theorem fX6_25 : ex_F RX6 25 6 2 .int false := ⟨RX6, TX6, 4, tyX6, rfl, (by decide +kernel), igX6, tyX6_ok, nmX6, rfl, rfl, rfl, (ex_tw 92 (by rfl) rfl)⟩
theorem fX9_129 : ex_F RX9 129 6 2 .int false := ⟨RX6, TX6, 4, tyX6, rfl, (by decide +kernel), igX6, tyX6_ok, nmX6, rfl, rfl, rfl, (ex_tw 93 (by rfl) rfl)⟩
theorem fX6_29 : ex_F RX6 29 6 3 .int false := ⟨RX6, TX6, 4, tyX6, rfl, (by decide +kernel), igX6, tyX6_ok, nmX6, rfl, rfl, rfl, (ex_tw 94 (by rfl) rfl)⟩
theorem fX9_224 : ex_F RX9 224 6 3 .int false := ⟨RX6, TX6, 4, tyX6, rfl, (by decide +kernel), igX6, tyX6_ok, nmX6, rfl, rfl, rfl, (ex_tw 95 (by rfl) rfl)⟩
theorem fX3_7 : ex_F RX3 7 3 0 .int false := ⟨RX3, TX3, 3, tyX3, rfl, (by decide +kernel), igX3, tyX3_ok, nmX3, rfl, rfl, rfl, (ex_tw 115 (by rfl) rfl)⟩
theorem fX9_136 : ex_F RX9 136 3 0 .int false := ⟨RX3, TX3, 3, tyX3, rfl, (by decide +kernel), igX3, tyX3_ok, nmX3, rfl, rfl, rfl, (ex_tw 116 (by rfl) rfl)⟩
theorem fX3_13 : ex_F RX3 13 3 1 .int false := ⟨RX3, TX3, 3, tyX3, rfl, (by decide +kernel), igX3, tyX3_ok, nmX3, rfl, rfl, rfl, (ex_tw 117 (by rfl) rfl)⟩
theorem fX3_18 : ex_F RX3 18 3 2 (.array (.object "TalliedWindows$Picture")) true := ⟨RX3, TX3, 3, tyX3, rfl, (by decide +kernel), igX3, tyX3_ok, nmX3, rfl, rfl, rfl, (ex_tw 118 (by rfl) rfl)⟩
theorem fX0_9 : ex_F RX0 9 0 0 .int false := ⟨RX0, TX0, 4, tyX0, rfl, (by decide +kernel), igX0, tyX0_ok, nmX0, rfl, rfl, rfl, (ex_tw 132 (by rfl) rfl)⟩
theorem fX9_132 : ex_F RX9 132 0 0 .int false := ⟨RX0, TX0, 4, tyX0, rfl, (by decide +kernel), igX0, tyX0_ok, nmX0, rfl, rfl, rfl, (ex_tw 133 (by rfl) rfl)⟩
theorem fX0_15 : ex_F RX0 15 0 1 (.array .int) true := ⟨RX0, TX0, 4, tyX0, rfl, (by decide +kernel), igX0, tyX0_ok, nmX0, rfl, rfl, rfl, (ex_tw 134 (by rfl) rfl)⟩
theorem fX0_19 : ex_F RX0 19 0 2 (.array .int) true := ⟨RX0, TX0, 4, tyX0, rfl, (by decide +kernel), igX0, tyX0_ok, nmX0, rfl, rfl, rfl, (ex_tw 135 (by rfl) rfl)⟩
theorem fX0_22 : ex_F RX0 22 0 3 (.array .int) true := ⟨RX0, TX0, 4, tyX0, rfl, (by decide +kernel), igX0, tyX0_ok, nmX0, rfl, rfl, rfl, (ex_tw 136 (by rfl) rfl)⟩
theorem fX8_9 : ex_F RX8 9 8 0 .int false := ⟨RX8, TX8, 3, tyX8, rfl, (by decide +kernel), igX8, tyX8_ok, nmX8, rfl, rfl, rfl, (ex_tw 152 (by rfl) rfl)⟩
theorem fX9_184 : ex_F RX9 184 8 0 .int false := ⟨RX8, TX8, 3, tyX8, rfl, (by decide +kernel), igX8, tyX8_ok, nmX8, rfl, rfl, rfl, (ex_tw 153 (by rfl) rfl)⟩
theorem fX8_15 : ex_F RX8 15 8 1 (.array .int) true := ⟨RX8, TX8, 3, tyX8, rfl, (by decide +kernel), igX8, tyX8_ok, nmX8, rfl, rfl, rfl, (ex_tw 154 (by rfl) rfl)⟩
theorem fX8_19 : ex_F RX8 19 8 2 (.array .int) true := ⟨RX8, TX8, 3, tyX8, rfl, (by decide +kernel), igX8, tyX8_ok, nmX8, rfl, rfl, rfl, (ex_tw 155 (by rfl) rfl)⟩
theorem fX9_10 : ex_F RX9 10 9 0 (.object "TalliedWindows$Text") true := ⟨RX9, TX9, 10, tyX9, rfl, (by decide +kernel), igX9, tyX9_ok, nmX9, rfl, rfl, rfl, (ex_tw 165 (by rfl) rfl)⟩
theorem fX9_19 : ex_F RX9 19 9 1 (.object "TalliedWindows$State") true := ⟨RX9, TX9, 10, tyX9, rfl, (by decide +kernel), igX9, tyX9_ok, nmX9, rfl, rfl, rfl, (ex_tw 166 (by rfl) rfl)⟩
theorem fX9_23 : ex_F RX9 23 9 2 (.array (.object "TalliedWindows$State")) true := ⟨RX9, TX9, 10, tyX9, rfl, (by decide +kernel), igX9, tyX9_ok, nmX9, rfl, rfl, rfl, (ex_tw 167 (by rfl) rfl)⟩
theorem fX9_27 : ex_F RX9 27 9 3 (.array .boolean) true := ⟨RX9, TX9, 10, tyX9, rfl, (by decide +kernel), igX9, tyX9_ok, nmX9, rfl, rfl, rfl, (ex_tw 168 (by rfl) rfl)⟩
theorem fX9_34 : ex_F RX9 34 9 4 (.object "TalliedWindows$History") true := ⟨RX9, TX9, 10, tyX9, rfl, (by decide +kernel), igX9, tyX9_ok, nmX9, rfl, rfl, rfl, (ex_tw 169 (by rfl) rfl)⟩
theorem fX9_41 : ex_F RX9 41 9 5 (.object "TalliedWindows$Book") true := ⟨RX9, TX9, 10, tyX9, rfl, (by decide +kernel), igX9, tyX9_ok, nmX9, rfl, rfl, rfl, (ex_tw 170 (by rfl) rfl)⟩
theorem fX9_48 : ex_F RX9 48 9 6 (.object "TalliedWindows$Window") true := ⟨RX9, TX9, 10, tyX9, rfl, (by decide +kernel), igX9, tyX9_ok, nmX9, rfl, rfl, rfl, (ex_tw 171 (by rfl) rfl)⟩
theorem fX9_55 : ex_F RX9 55 9 7 (.object "TalliedWindows$Picture") true := ⟨RX9, TX9, 10, tyX9, rfl, (by decide +kernel), igX9, tyX9_ok, nmX9, rfl, rfl, rfl, (ex_tw 172 (by rfl) rfl)⟩
theorem fX9_59 : ex_F RX9 59 9 8 (.object "TalliedWindows$Picture") true := ⟨RX9, TX9, 10, tyX9, rfl, (by decide +kernel), igX9, tyX9_ok, nmX9, rfl, rfl, rfl, (ex_tw 173 (by rfl) rfl)⟩
theorem fX9_62 : ex_F RX9 62 9 9 .int false := ⟨RX9, TX9, 10, tyX9, rfl, (by decide +kernel), igX9, tyX9_ok, nmX9, rfl, rfl, rfl, (ex_tw 174 (by rfl) rfl)⟩
theorem fX5_27 : ex_F RX5 27 5 0 (.object "TalliedWindows$Picture") true := ⟨RX5, TX5, 6, tyX5, rfl, (by decide +kernel), igX5, tyX5_ok, nmX5, rfl, rfl, rfl, (ex_tw 223 (by rfl) rfl)⟩
theorem fX5_9 : ex_F RX5 9 5 1 .int false := ⟨RX5, TX5, 6, tyX5, rfl, (by decide +kernel), igX5, tyX5_ok, nmX5, rfl, rfl, rfl, (ex_tw 224 (by rfl) rfl)⟩
theorem fX5_15 : ex_F RX5 15 5 2 .int false := ⟨RX5, TX5, 6, tyX5, rfl, (by decide +kernel), igX5, tyX5_ok, nmX5, rfl, rfl, rfl, (ex_tw 225 (by rfl) rfl)⟩
theorem fX5_18 : ex_F RX5 18 5 3 .int false := ⟨RX5, TX5, 6, tyX5, rfl, (by decide +kernel), igX5, tyX5_ok, nmX5, rfl, rfl, rfl, (ex_tw 226 (by rfl) rfl)⟩
theorem fX5_21 : ex_F RX5 21 5 4 .int false := ⟨RX5, TX5, 6, tyX5, rfl, (by decide +kernel), igX5, tyX5_ok, nmX5, rfl, rfl, rfl, (ex_tw 227 (by rfl) rfl)⟩
theorem fX5_24 : ex_F RX5 24 5 5 .int false := ⟨RX5, TX5, 6, tyX5, rfl, (by decide +kernel), igX5, tyX5_ok, nmX5, rfl, rfl, rfl, (ex_tw 228 (by rfl) rfl)⟩
theorem fX1_7 : ex_F RX1 7 1 0 .int true := ⟨RX1, TX1, 5, tyX1, rfl, (by decide +kernel), igX1, tyX1_ok, nmX1, rfl, rfl, rfl, (ex_tw 368 (by rfl) rfl)⟩
theorem fX8_68 : ex_F RX8 68 1 0 .int true := ⟨RX1, TX1, 5, tyX1, rfl, (by decide +kernel), igX1, tyX1_ok, nmX1, rfl, rfl, rfl, (ex_tw 369 (by rfl) rfl)⟩
theorem fX1_13 : ex_F RX1 13 1 1 .int true := ⟨RX1, TX1, 5, tyX1, rfl, (by decide +kernel), igX1, tyX1_ok, nmX1, rfl, rfl, rfl, (ex_tw 370 (by rfl) rfl)⟩
theorem fX8_28 : ex_F RX8 28 1 1 .int true := ⟨RX1, TX1, 5, tyX1, rfl, (by decide +kernel), igX1, tyX1_ok, nmX1, rfl, rfl, rfl, (ex_tw 371 (by rfl) rfl)⟩
theorem fX1_16 : ex_F RX1 16 1 2 .int true := ⟨RX1, TX1, 5, tyX1, rfl, (by decide +kernel), igX1, tyX1_ok, nmX1, rfl, rfl, rfl, (ex_tw 372 (by rfl) rfl)⟩
theorem fX9_178 : ex_F RX9 178 1 2 .int true := ⟨RX1, TX1, 5, tyX1, rfl, (by decide +kernel), igX1, tyX1_ok, nmX1, rfl, rfl, rfl, (ex_tw 373 (by rfl) rfl)⟩
theorem fX1_19 : ex_F RX1 19 1 3 .int true := ⟨RX1, TX1, 5, tyX1, rfl, (by decide +kernel), igX1, tyX1_ok, nmX1, rfl, rfl, rfl, (ex_tw 374 (by rfl) rfl)⟩
theorem fX8_38 : ex_F RX8 38 1 3 .int true := ⟨RX1, TX1, 5, tyX1, rfl, (by decide +kernel), igX1, tyX1_ok, nmX1, rfl, rfl, rfl, (ex_tw 375 (by rfl) rfl)⟩
theorem fX1_22 : ex_F RX1 22 1 4 .int true := ⟨RX1, TX1, 5, tyX1, rfl, (by decide +kernel), igX1, tyX1_ok, nmX1, rfl, rfl, rfl, (ex_tw 376 (by rfl) rfl)⟩
theorem fX8_57 : ex_F RX8 57 1 4 .int true := ⟨RX1, TX1, 5, tyX1, rfl, (by decide +kernel), igX1, tyX1_ok, nmX1, rfl, rfl, rfl, (ex_tw 377 (by rfl) rfl)⟩
set_option maxRecDepth 20000 in
theorem fX10_7 : ex_F RX10 7 10 0 (.array .int) true := ⟨RX10, TX10, 23, tyX10, rfl, (by decide +kernel), igX10, tyX10_ok, nmX10, rfl, rfl, rfl, (ex_tw 597 (by rfl) rfl)⟩
set_option maxRecDepth 20000 in
theorem fX10_51 : ex_F RX10 51 10 1 .int false := ⟨RX10, TX10, 23, tyX10, rfl, (by decide +kernel), igX10, tyX10_ok, nmX10, rfl, rfl, rfl, (ex_tw 598 (by rfl) rfl)⟩
set_option maxRecDepth 20000 in
theorem fX10_221 : ex_F RX10 221 10 2 .int false := ⟨RX10, TX10, 23, tyX10, rfl, (by decide +kernel), igX10, tyX10_ok, nmX10, rfl, rfl, rfl, (ex_tw 599 (by rfl) rfl)⟩
set_option maxRecDepth 20000 in
theorem fX10_204 : ex_F RX10 204 10 3 .int false := ⟨RX10, TX10, 23, tyX10, rfl, (by decide +kernel), igX10, tyX10_ok, nmX10, rfl, rfl, rfl, (ex_tw 600 (by rfl) rfl)⟩
set_option maxRecDepth 20000 in
theorem fX10_13 : ex_F RX10 13 10 4 (.array .int) true := ⟨RX10, TX10, 23, tyX10, rfl, (by decide +kernel), igX10, tyX10_ok, nmX10, rfl, rfl, rfl, (ex_tw 601 (by rfl) rfl)⟩
set_option maxRecDepth 20000 in
theorem fX10_98 : ex_F RX10 98 10 5 .int false := ⟨RX10, TX10, 23, tyX10, rfl, (by decide +kernel), igX10, tyX10_ok, nmX10, rfl, rfl, rfl, (ex_tw 602 (by rfl) rfl)⟩
set_option maxRecDepth 20000 in
theorem fX10_16 : ex_F RX10 16 10 6 .int false := ⟨RX10, TX10, 23, tyX10, rfl, (by decide +kernel), igX10, tyX10_ok, nmX10, rfl, rfl, rfl, (ex_tw 603 (by rfl) rfl)⟩
set_option maxRecDepth 20000 in
theorem fX10_20 : ex_F RX10 20 10 7 (.array .int) true := ⟨RX10, TX10, 23, tyX10, rfl, (by decide +kernel), igX10, tyX10_ok, nmX10, rfl, rfl, rfl, (ex_tw 604 (by rfl) rfl)⟩
set_option maxRecDepth 20000 in
theorem fX10_127 : ex_F RX10 127 10 8 .int false := ⟨RX10, TX10, 23, tyX10, rfl, (by decide +kernel), igX10, tyX10_ok, nmX10, rfl, rfl, rfl, (ex_tw 605 (by rfl) rfl)⟩
set_option maxRecDepth 20000 in
theorem fX10_23 : ex_F RX10 23 10 9 (.array .int) true := ⟨RX10, TX10, 23, tyX10, rfl, (by decide +kernel), igX10, tyX10_ok, nmX10, rfl, rfl, rfl, (ex_tw 606 (by rfl) rfl)⟩
set_option maxRecDepth 20000 in
theorem fX10_26 : ex_F RX10 26 10 10 (.array .int) true := ⟨RX10, TX10, 23, tyX10, rfl, (by decide +kernel), igX10, tyX10_ok, nmX10, rfl, rfl, rfl, (ex_tw 607 (by rfl) rfl)⟩
set_option maxRecDepth 20000 in
theorem fX10_29 : ex_F RX10 29 10 11 (.array .int) true := ⟨RX10, TX10, 23, tyX10, rfl, (by decide +kernel), igX10, tyX10_ok, nmX10, rfl, rfl, rfl, (ex_tw 608 (by rfl) rfl)⟩
set_option maxRecDepth 20000 in
theorem fX10_32 : ex_F RX10 32 10 12 (.array .int) true := ⟨RX10, TX10, 23, tyX10, rfl, (by decide +kernel), igX10, tyX10_ok, nmX10, rfl, rfl, rfl, (ex_tw 609 (by rfl) rfl)⟩
set_option maxRecDepth 20000 in
theorem fX10_35 : ex_F RX10 35 10 13 (.array .int) true := ⟨RX10, TX10, 23, tyX10, rfl, (by decide +kernel), igX10, tyX10_ok, nmX10, rfl, rfl, rfl, (ex_tw 610 (by rfl) rfl)⟩
set_option maxRecDepth 20000 in
theorem fX10_38 : ex_F RX10 38 10 14 (.array .int) true := ⟨RX10, TX10, 23, tyX10, rfl, (by decide +kernel), igX10, tyX10_ok, nmX10, rfl, rfl, rfl, (ex_tw 611 (by rfl) rfl)⟩
set_option maxRecDepth 20000 in
theorem fX10_163 : ex_F RX10 163 10 15 .int false := ⟨RX10, TX10, 23, tyX10, rfl, (by decide +kernel), igX10, tyX10_ok, nmX10, rfl, rfl, rfl, (ex_tw 612 (by rfl) rfl)⟩
set_option maxRecDepth 20000 in
theorem fX10_74 : ex_F RX10 74 10 16 .int false := ⟨RX10, TX10, 23, tyX10, rfl, (by decide +kernel), igX10, tyX10_ok, nmX10, rfl, rfl, rfl, (ex_tw 613 (by rfl) rfl)⟩
set_option maxRecDepth 20000 in
theorem fX10_77 : ex_F RX10 77 10 17 .int false := ⟨RX10, TX10, 23, tyX10, rfl, (by decide +kernel), igX10, tyX10_ok, nmX10, rfl, rfl, rfl, (ex_tw 614 (by rfl) rfl)⟩
set_option maxRecDepth 20000 in
theorem fX10_80 : ex_F RX10 80 10 18 .int false := ⟨RX10, TX10, 23, tyX10, rfl, (by decide +kernel), igX10, tyX10_ok, nmX10, rfl, rfl, rfl, (ex_tw 615 (by rfl) rfl)⟩
set_option maxRecDepth 20000 in
theorem fX10_83 : ex_F RX10 83 10 19 .int false := ⟨RX10, TX10, 23, tyX10, rfl, (by decide +kernel), igX10, tyX10_ok, nmX10, rfl, rfl, rfl, (ex_tw 616 (by rfl) rfl)⟩
set_option maxRecDepth 20000 in
theorem fX10_41 : ex_F RX10 41 10 20 (.array .int) true := ⟨RX10, TX10, 23, tyX10, rfl, (by decide +kernel), igX10, tyX10_ok, nmX10, rfl, rfl, rfl, (ex_tw 617 (by rfl) rfl)⟩
set_option maxRecDepth 20000 in
theorem fX10_121 : ex_F RX10 121 10 21 .int false := ⟨RX10, TX10, 23, tyX10, rfl, (by decide +kernel), igX10, tyX10_ok, nmX10, rfl, rfl, rfl, (ex_tw 618 (by rfl) rfl)⟩
set_option maxRecDepth 20000 in
theorem fX10_44 : ex_F RX10 44 10 22 (.array .int) true := ⟨RX10, TX10, 23, tyX10, rfl, (by decide +kernel), igX10, tyX10_ok, nmX10, rfl, rfl, rfl, (ex_tw 619 (by rfl) rfl)⟩
theorem nL_7 : ex_N RL 7 9 10 [.null, .null, .null, .null, .null, .null, .null, .null, .null, .int 0] := ⟨RX9, TX9, tyX9, rfl, igX9, tyX9_ok, (ex_tw 14 (by rfl) rfl), (ex_tw 15 (by rfl) rfl), (ex_tw 1 (by rfl) rfl), fun b j hj => by
  match j, hj with
  | 0, _ => rfl
  | 1, _ => rfl
  | 2, _ => rfl
  | 3, _ => rfl
  | 4, _ => rfl
  | 5, _ => rfl
  | 6, _ => rfl
  | 7, _ => rfl
  | 8, _ => rfl
  | 9, _ => rfl
  | q + 10, h => exact absurd h (by omega)⟩
theorem lL_7 : Cond.classLink RL 7 RX9 ∈ ex_g := (ex_tw 14 (by rfl) rfl)
theorem nX9_7 : ex_N RX9 7 7 3 [.int 0, .null, .int 0] := ⟨RX7, TX7, tyX7, rfl, igX7, tyX7_ok, (ex_tw 22 (by rfl) rfl), (ex_tw 23 (by rfl) rfl), (ex_tw 2 (by rfl) rfl), fun b j hj => by
  match j, hj with
  | 0, _ => rfl
  | 1, _ => rfl
  | 2, _ => rfl
  | q + 3, h => exact absurd h (by omega)⟩
theorem lX9_7 : Cond.classLink RX9 7 RX7 ∈ ex_g := (ex_tw 22 (by rfl) rfl)
theorem nX9_16 : ex_N RX9 16 6 4 [.null, .null, .int 0, .int 0] := ⟨RX6, TX6, tyX6, rfl, igX6, tyX6_ok, (ex_tw 40 (by rfl) rfl), (ex_tw 41 (by rfl) rfl), (ex_tw 3 (by rfl) rfl), fun b j hj => by
  match j, hj with
  | 0, _ => rfl
  | 1, _ => rfl
  | 2, _ => rfl
  | 3, _ => rfl
  | q + 4, h => exact absurd h (by omega)⟩
theorem lX9_16 : Cond.classLink RX9 16 RX6 ∈ ex_g := (ex_tw 40 (by rfl) rfl)
theorem nX6_9 : ex_N RX6 9 4 4 [.int 0, .int 0, .null, .null] := ⟨RX4, TX4, tyX4, rfl, igX4, tyX4_ok, (ex_tw 46 (by rfl) rfl), (ex_tw 47 (by rfl) rfl), (ex_tw 4 (by rfl) rfl), fun b j hj => by
  match j, hj with
  | 0, _ => rfl
  | 1, _ => rfl
  | 2, _ => rfl
  | 3, _ => rfl
  | q + 4, h => exact absurd h (by omega)⟩
theorem lX6_9 : Cond.classLink RX6 9 RX4 ∈ ex_g := (ex_tw 46 (by rfl) rfl)
theorem nX6_18 : ex_N RX6 18 2 2 [.int 0, .null] := ⟨RX2, TX2, tyX2, rfl, igX2, tyX2_ok, (ex_tw 72 (by rfl) rfl), (ex_tw 73 (by rfl) rfl), (ex_tw 5 (by rfl) rfl), fun b j hj => by
  match j, hj with
  | 0, _ => rfl
  | 1, _ => rfl
  | q + 2, h => exact absurd h (by omega)⟩
theorem lX6_18 : Cond.classLink RX6 18 RX2 ∈ ex_g := (ex_tw 72 (by rfl) rfl)
theorem nX2_15 : ex_N RX2 15 1 5 [.int 0, .int 0, .int 0, .int 0, .int 0] := ⟨RX1, TX1, tyX1, rfl, igX1, tyX1_ok, (ex_tw 78 (by rfl) rfl), (ex_tw 363 (by rfl) rfl), (ex_tw 11 (by rfl) rfl), fun b j hj => by
  match j, hj with
  | 0, _ => rfl
  | 1, _ => rfl
  | 2, _ => rfl
  | 3, _ => rfl
  | 4, _ => rfl
  | q + 5, h => exact absurd h (by omega)⟩
theorem lX2_15 : Cond.classLink RX2 15 RX1 ∈ ex_g := (ex_tw 78 (by rfl) rfl)
theorem nX9_31 : ex_N RX9 31 3 3 [.int 0, .int 0, .null] := ⟨RX3, TX3, tyX3, rfl, igX3, tyX3_ok, (ex_tw 106 (by rfl) rfl), (ex_tw 107 (by rfl) rfl), (ex_tw 6 (by rfl) rfl), fun b j hj => by
  match j, hj with
  | 0, _ => rfl
  | 1, _ => rfl
  | 2, _ => rfl
  | q + 3, h => exact absurd h (by omega)⟩
theorem lX9_31 : Cond.classLink RX9 31 RX3 ∈ ex_g := (ex_tw 106 (by rfl) rfl)
theorem nX3_16 : ex_N RX3 16 4 4 [.int 0, .int 0, .null, .null] := ⟨RX4, TX4, tyX4, rfl, igX4, tyX4_ok, (ex_tw 112 (by rfl) rfl), (ex_tw 47 (by rfl) rfl), (ex_tw 4 (by rfl) rfl), fun b j hj => by
  match j, hj with
  | 0, _ => rfl
  | 1, _ => rfl
  | 2, _ => rfl
  | 3, _ => rfl
  | q + 4, h => exact absurd h (by omega)⟩
theorem lX3_16 : Cond.classLink RX3 16 RX4 ∈ ex_g := (ex_tw 112 (by rfl) rfl)
theorem nX9_38 : ex_N RX9 38 0 4 [.int 0, .null, .null, .null] := ⟨RX0, TX0, tyX0, rfl, igX0, tyX0_ok, (ex_tw 126 (by rfl) rfl), (ex_tw 127 (by rfl) rfl), (ex_tw 7 (by rfl) rfl), fun b j hj => by
  match j, hj with
  | 0, _ => rfl
  | 1, _ => rfl
  | 2, _ => rfl
  | 3, _ => rfl
  | q + 4, h => exact absurd h (by omega)⟩
theorem lX9_38 : Cond.classLink RX9 38 RX0 ∈ ex_g := (ex_tw 126 (by rfl) rfl)
theorem nX9_45 : ex_N RX9 45 8 3 [.int 0, .null, .null] := ⟨RX8, TX8, tyX8, rfl, igX8, tyX8_ok, (ex_tw 146 (by rfl) rfl), (ex_tw 147 (by rfl) rfl), (ex_tw 8 (by rfl) rfl), fun b j hj => by
  match j, hj with
  | 0, _ => rfl
  | 1, _ => rfl
  | 2, _ => rfl
  | q + 3, h => exact absurd h (by omega)⟩
theorem lX9_45 : Cond.classLink RX9 45 RX8 ∈ ex_g := (ex_tw 146 (by rfl) rfl)
theorem nX9_52 : ex_N RX9 52 4 4 [.int 0, .int 0, .null, .null] := ⟨RX4, TX4, tyX4, rfl, igX4, tyX4_ok, (ex_tw 163 (by rfl) rfl), (ex_tw 47 (by rfl) rfl), (ex_tw 4 (by rfl) rfl), fun b j hj => by
  match j, hj with
  | 0, _ => rfl
  | 1, _ => rfl
  | 2, _ => rfl
  | 3, _ => rfl
  | q + 4, h => exact absurd h (by omega)⟩
theorem lX9_52 : Cond.classLink RX9 52 RX4 ∈ ex_g := (ex_tw 163 (by rfl) rfl)
theorem nX7_23 : ex_N RX7 23 5 6 [.null, .int 0, .int 0, .int 0, .int 0, .int 0] := ⟨RX5, TX5, tyX5, rfl, igX5, tyX5_ok, (ex_tw 217 (by rfl) rfl), (ex_tw 218 (by rfl) rfl), (ex_tw 10 (by rfl) rfl), fun b j hj => by
  match j, hj with
  | 0, _ => rfl
  | 1, _ => rfl
  | 2, _ => rfl
  | 3, _ => rfl
  | 4, _ => rfl
  | 5, _ => rfl
  | q + 6, h => exact absurd h (by omega)⟩
theorem lX7_23 : Cond.classLink RX7 23 RX5 ∈ ex_g := (ex_tw 217 (by rfl) rfl)
theorem nX9_158 : ex_N RX9 158 1 5 [.int 0, .int 0, .int 0, .int 0, .int 0] := ⟨RX1, TX1, tyX1, rfl, igX1, tyX1_ok, (ex_tw 362 (by rfl) rfl), (ex_tw 363 (by rfl) rfl), (ex_tw 11 (by rfl) rfl), fun b j hj => by
  match j, hj with
  | 0, _ => rfl
  | 1, _ => rfl
  | 2, _ => rfl
  | 3, _ => rfl
  | 4, _ => rfl
  | q + 5, h => exact absurd h (by omega)⟩
theorem lX9_158 : Cond.classLink RX9 158 RX1 ∈ ex_g := (ex_tw 362 (by rfl) rfl)
set_option maxRecDepth 20000 in
theorem nL_10 : ex_N RL 10 10 23 [.null, .int 0, .int 0, .int 0, .null, .int 0, .int 0, .null, .int 0, .null, .null, .null, .null, .null, .null, .int 0, .int 0, .int 0, .int 0, .int 0, .null, .int 0, .null] := ⟨RX10, TX10, tyX10, rfl, igX10, tyX10_ok, (ex_tw 591 (by rfl) rfl), (ex_tw 592 (by rfl) rfl), (ex_tw 9 (by rfl) rfl), fun b j hj => by
  match j, hj with
  | 0, _ => rfl
  | 1, _ => rfl
  | 2, _ => rfl
  | 3, _ => rfl
  | 4, _ => rfl
  | 5, _ => rfl
  | 6, _ => rfl
  | 7, _ => rfl
  | 8, _ => rfl
  | 9, _ => rfl
  | 10, _ => rfl
  | 11, _ => rfl
  | 12, _ => rfl
  | 13, _ => rfl
  | 14, _ => rfl
  | 15, _ => rfl
  | 16, _ => rfl
  | 17, _ => rfl
  | 18, _ => rfl
  | 19, _ => rfl
  | 20, _ => rfl
  | 21, _ => rfl
  | 22, _ => rfl
  | q + 23, h => exact absurd h (by omega)⟩
set_option maxRecDepth 20000 in
theorem lL_10 : Cond.classLink RL 10 RX10 ∈ ex_g := (ex_tw 591 (by rfl) rfl)
theorem vL_9 : ex_I RL 9 mX9_init 0 := ⟨cmX9_init, (ex_tw 17 (by rfl) rfl), rfl, rfl, (Or.inl (ex_tw 16 (by rfl) rfl))⟩
theorem oX9_1 : Cond.methodLink RX9 1 Lib.objectInit ∈ ex_g := (ex_tw 19 (by rfl) rfl)
theorem oX7_3 : Cond.methodLink RX7 3 Lib.objectInit ∈ ex_g := (ex_tw 27 (by rfl) rfl)
theorem oX6_3 : Cond.methodLink RX6 3 Lib.objectInit ∈ ex_g := (ex_tw 45 (by rfl) rfl)
theorem oX4_3 : Cond.methodLink RX4 3 Lib.objectInit ∈ ex_g := (ex_tw 51 (by rfl) rfl)
theorem oX2_3 : Cond.methodLink RX2 3 Lib.objectInit ∈ ex_g := (ex_tw 77 (by rfl) rfl)
theorem vX9_33 : ex_I RX9 33 mX3_init 0 := ⟨cmX3_init, (ex_tw 109 (by rfl) rfl), rfl, rfl, (Or.inl (ex_tw 108 (by rfl) rfl))⟩
theorem oX3_1 : Cond.methodLink RX3 1 Lib.objectInit ∈ ex_g := (ex_tw 111 (by rfl) rfl)
theorem oX0_3 : Cond.methodLink RX0 3 Lib.objectInit ∈ ex_g := (ex_tw 131 (by rfl) rfl)
theorem oX8_3 : Cond.methodLink RX8 3 Lib.objectInit ∈ ex_g := (ex_tw 151 (by rfl) rfl)
theorem vL_13 : ex_V RL 13 mX9_feed 1 := ⟨cmX9_feed, (ex_tw 196 (by rfl) rfl), (ex_tw 197 (by rfl) rfl), (ex_tw 198 (by rfl) rfl)⟩
theorem vX9_66 : ex_S RX9 66 mX9_within 3 := ⟨cmX9_within, (ex_tw 201 (by rfl) rfl), (Or.inl (ex_tw 200 (by rfl) rfl))⟩
theorem vX9_71 : ex_V RX9 71 mX7_append 1 := ⟨cmX7_append, (ex_tw 204 (by rfl) rfl), (ex_tw 205 (by rfl) rfl), (ex_tw 206 (by rfl) rfl)⟩
theorem vL_18 : ex_V RL 18 mX9_picture 0 := ⟨cmX9_picture, (ex_tw 209 (by rfl) rfl), (ex_tw 210 (by rfl) rfl), (ex_tw 211 (by rfl) rfl)⟩
theorem vX9_75 : ex_V RX9 75 mX7_readInto 1 := ⟨cmX7_readInto, (ex_tw 213 (by rfl) rfl), (ex_tw 214 (by rfl) rfl), (ex_tw 215 (by rfl) rfl)⟩
theorem vX7_25 : ex_I RX7 25 mX5_init 1 := ⟨cmX5_init, (ex_tw 220 (by rfl) rfl), rfl, rfl, (Or.inl (ex_tw 219 (by rfl) rfl))⟩
theorem oX5_3 : Cond.methodLink RX5 3 Lib.objectInit ∈ ex_g := (ex_tw 222 (by rfl) rfl)
theorem vX7_28 : ex_V RX7 28 mX5_take 1 := ⟨cmX5_take, (ex_tw 242 (by rfl) rfl), (ex_tw 243 (by rfl) rfl), (ex_tw 244 (by rfl) rfl)⟩
theorem vX5_31 : ex_V RX5 31 mX5_takeRowEnd 1 := ⟨cmX5_takeRowEnd, (ex_tw 246 (by rfl) rfl), (ex_tw 247 (by rfl) rfl), (ex_tw 248 (by rfl) rfl)⟩
theorem vX5_45 : ex_V RX5 45 mX4_setSize 2 := ⟨cmX4_setSize, (ex_tw 250 (by rfl) rfl), (ex_tw 251 (by rfl) rfl), (ex_tw 252 (by rfl) rfl)⟩
theorem vX5_35 : ex_S RX5 35 mX5_signOf 1 := ⟨cmX5_signOf, (ex_tw 256 (by rfl) rfl), (Or.inl (ex_tw 255 (by rfl) rfl))⟩
theorem vX5_39 : ex_V RX5 39 mX5_takeFirstSign 1 := ⟨cmX5_takeFirstSign, (ex_tw 259 (by rfl) rfl), (ex_tw 261 (by rfl) rfl), (ex_ts 0 (by rfl) rfl)⟩
theorem vX5_42 : ex_V RX5 42 mX5_takeSecondSign 1 := ⟨cmX5_takeSecondSign, (ex_tw 263 (by rfl) rfl), (ex_tw 265 (by rfl) rfl), (ex_ts 1 (by rfl) rfl)⟩
theorem vX5_51 : ex_V RX5 51 mX4_setInOrder 3 := ⟨cmX4_setInOrder, (ex_tw 267 (by rfl) rfl), (ex_tw 268 (by rfl) rfl), (ex_tw 269 (by rfl) rfl)⟩
theorem vX7_32 : ex_V RX7 32 mX5_takeRowEnd 1 := ⟨cmX5_takeRowEnd, (ex_tw 271 (by rfl) rfl), (ex_tw 247 (by rfl) rfl), (ex_tw 248 (by rfl) rfl)⟩
theorem vX9_79 : ex_V RX9 79 mX7_placeRead 0 := ⟨cmX7_placeRead, (ex_tw 272 (by rfl) rfl), (ex_tw 273 (by rfl) rfl), (ex_tw 274 (by rfl) rfl)⟩
theorem vX9_83 : ex_V RX9 83 mX7_clear 0 := ⟨cmX7_clear, (ex_tw 276 (by rfl) rfl), (ex_tw 277 (by rfl) rfl), (ex_tw 278 (by rfl) rfl)⟩
theorem vX9_89 : ex_V RX9 89 mX3_remember 1 := ⟨cmX3_remember, (ex_tw 280 (by rfl) rfl), (ex_tw 281 (by rfl) rfl), (ex_tw 282 (by rfl) rfl)⟩
theorem vX3_23 : ex_V RX3 23 mX4_become 1 := ⟨cmX4_become, (ex_tw 284 (by rfl) rfl), (ex_tw 285 (by rfl) rfl), (ex_tw 286 (by rfl) rfl)⟩
theorem vX4_34 : ex_V RX4 34 mX4_setSize 2 := ⟨cmX4_setSize, (ex_tw 288 (by rfl) rfl), (ex_tw 251 (by rfl) rfl), (ex_tw 252 (by rfl) rfl)⟩
theorem vX4_38 : ex_V RX4 38 mX4_dots 0 := ⟨cmX4_dots, (ex_tw 289 (by rfl) rfl), (ex_tw 290 (by rfl) rfl), (ex_tw 291 (by rfl) rfl)⟩
theorem vX9_93 : ex_V RX9 93 mX4_become 1 := ⟨cmX4_become, (ex_tw 293 (by rfl) rfl), (ex_tw 285 (by rfl) rfl), (ex_tw 286 (by rfl) rfl)⟩
theorem vX9_96 : ex_V RX9 96 mX4_dots 0 := ⟨cmX4_dots, (ex_tw 294 (by rfl) rfl), (ex_tw 290 (by rfl) rfl), (ex_tw 291 (by rfl) rfl)⟩
theorem vL_23 : ex_V RL 23 mX9_fault 0 := ⟨cmX9_fault, (ex_tw 295 (by rfl) rfl), (ex_tw 296 (by rfl) rfl), (ex_tw 297 (by rfl) rfl)⟩
theorem vL_27 : ex_V RL 27 mX9_told 1 := ⟨cmX9_told, (ex_tw 299 (by rfl) rfl), (ex_tw 300 (by rfl) rfl), (ex_tw 301 (by rfl) rfl)⟩
theorem vX9_105 : ex_V RX9 105 mX4_maskedDots 0 := ⟨cmX4_maskedDots, (ex_tw 303 (by rfl) rfl), (ex_tw 304 (by rfl) rfl), (ex_tw 305 (by rfl) rfl)⟩
theorem vX9_108 : ex_V RX9 108 mX4_leastGrey 0 := ⟨cmX4_leastGrey, (ex_tw 307 (by rfl) rfl), (ex_tw 308 (by rfl) rfl), (ex_tw 309 (by rfl) rfl)⟩
theorem vX9_111 : ex_V RX9 111 mX4_greatestGrey 0 := ⟨cmX4_greatestGrey, (ex_tw 311 (by rfl) rfl), (ex_tw 312 (by rfl) rfl), (ex_tw 313 (by rfl) rfl)⟩
theorem vX9_114 : ex_V RX9 114 mX4_greysTogether 0 := ⟨cmX4_greysTogether, (ex_tw 315 (by rfl) rfl), (ex_tw 316 (by rfl) rfl), (ex_tw 317 (by rfl) rfl)⟩
theorem vX9_133 : ex_V RX9 133 mX0_firstWrong 1 := ⟨cmX0_firstWrong, (ex_tw 319 (by rfl) rfl), (ex_tw 320 (by rfl) rfl), (ex_tw 321 (by rfl) rfl)⟩
theorem vX0_26 : ex_V RX0 26 mX4_has 2 := ⟨cmX4_has, (ex_tw 323 (by rfl) rfl), (ex_tw 324 (by rfl) rfl), (ex_tw 325 (by rfl) rfl)⟩
theorem vX0_32 : ex_V RX0 32 mX4_greyOf 2 := ⟨cmX4_greyOf, (ex_tw 327 (by rfl) rfl), (ex_tw 328 (by rfl) rfl), (ex_tw 329 (by rfl) rfl)⟩
theorem vX4_26 : ex_V RX4 26 mX4_has 2 := ⟨cmX4_has, (ex_tw 331 (by rfl) rfl), (ex_tw 324 (by rfl) rfl), (ex_tw 325 (by rfl) rfl)⟩
theorem vL_31 : ex_V RL 31 mX9_at 3 := ⟨cmX9_at, (ex_tw 332 (by rfl) rfl), (ex_tw 333 (by rfl) rfl), (ex_tw 334 (by rfl) rfl)⟩
theorem vX9_137 : ex_V RX9 137 mX4_has 2 := ⟨cmX4_has, (ex_tw 336 (by rfl) rfl), (ex_tw 324 (by rfl) rfl), (ex_tw 325 (by rfl) rfl)⟩
theorem vX9_142 : ex_V RX9 142 mX4_greyOf 2 := ⟨cmX4_greyOf, (ex_tw 338 (by rfl) rfl), (ex_tw 328 (by rfl) rfl), (ex_tw 329 (by rfl) rfl)⟩
theorem vX9_146 : ex_V RX9 146 mX4_isMasked 2 := ⟨cmX4_isMasked, (ex_tw 339 (by rfl) rfl), (ex_tw 340 (by rfl) rfl), (ex_tw 341 (by rfl) rfl)⟩
theorem vL_36 : ex_V RL 36 mX9_tally 5 := ⟨cmX9_tally, (ex_tw 343 (by rfl) rfl), (ex_tw 344 (by rfl) rfl), (ex_tw 345 (by rfl) rfl)⟩
theorem vX9_149 : ex_V RX9 149 mX4_dotsUpTo 5 := ⟨cmX4_dotsUpTo, (ex_tw 347 (by rfl) rfl), (ex_tw 348 (by rfl) rfl), (ex_tw 349 (by rfl) rfl)⟩
theorem vX4_50 : ex_V RX4 50 mX4_isMasked 2 := ⟨cmX4_isMasked, (ex_tw 351 (by rfl) rfl), (ex_tw 340 (by rfl) rfl), (ex_tw 341 (by rfl) rfl)⟩
theorem vX4_42 : ex_V RX4 42 mX4_greyOf 2 := ⟨cmX4_greyOf, (ex_tw 352 (by rfl) rfl), (ex_tw 328 (by rfl) rfl), (ex_tw 329 (by rfl) rfl)⟩
theorem vL_41 : ex_V RL 41 mX9_filter 5 := ⟨cmX9_filter, (ex_tw 353 (by rfl) rfl), (ex_tw 354 (by rfl) rfl), (ex_tw 355 (by rfl) rfl)⟩
theorem vX9_153 : ex_V RX9 153 mX2_isFull 0 := ⟨cmX2_isFull, (ex_tw 357 (by rfl) rfl), (ex_tw 358 (by rfl) rfl), (ex_tw 359 (by rfl) rfl)⟩
theorem vX9_160 : ex_I RX9 160 mX1_init 5 := ⟨cmX1_init, (ex_tw 365 (by rfl) rfl), rfl, rfl, (Or.inl (ex_tw 364 (by rfl) rfl))⟩
theorem oX1_1 : Cond.methodLink RX1 1 Lib.objectInit ∈ ex_g := (ex_tw 367 (by rfl) rfl)
theorem vX9_163 : ex_V RX9 163 mX2_add 1 := ⟨cmX2_add, (ex_tw 389 (by rfl) rfl), (ex_tw 390 (by rfl) rfl), (ex_tw 391 (by rfl) rfl)⟩
theorem vX2_25 : ex_V RX2 25 mX2_isFull 0 := ⟨cmX2_isFull, (ex_tw 393 (by rfl) rfl), (ex_tw 358 (by rfl) rfl), (ex_tw 359 (by rfl) rfl)⟩
theorem vL_45 : ex_V RL 45 mX9_drop 1 := ⟨cmX9_drop, (ex_tw 395 (by rfl) rfl), (ex_tw 396 (by rfl) rfl), (ex_tw 397 (by rfl) rfl)⟩
set_option maxRecDepth 20000 in
theorem vX9_167 : ex_V RX9 167 mX2_numbered 1 := ⟨cmX2_numbered, (ex_tw 399 (by rfl) rfl), (ex_tw 400 (by rfl) rfl), (ex_tw 401 (by rfl) rfl)⟩
set_option maxRecDepth 20000 in
theorem vX9_171 : ex_V RX9 171 mX2_remove 1 := ⟨cmX2_remove, (ex_tw 404 (by rfl) rfl), (ex_tw 405 (by rfl) rfl), (ex_tw 406 (by rfl) rfl)⟩
set_option maxRecDepth 20000 in
theorem vL_49 : ex_V RL 49 mX9_fill 1 := ⟨cmX9_fill, (ex_tw 409 (by rfl) rfl), (ex_tw 410 (by rfl) rfl), (ex_tw 411 (by rfl) rfl)⟩
set_option maxRecDepth 20000 in
theorem vL_53 : ex_V RL 53 mX9_would 4 := ⟨cmX9_would, (ex_tw 413 (by rfl) rfl), (ex_tw 414 (by rfl) rfl), (ex_tw 415 (by rfl) rfl)⟩
set_option maxRecDepth 20000 in
theorem vX9_174 : ex_V RX9 174 mX8_lookAt 5 := ⟨cmX8_lookAt, (ex_tw 417 (by rfl) rfl), (ex_tw 418 (by rfl) rfl), (ex_tw 419 (by rfl) rfl)⟩
set_option maxRecDepth 20000 in
theorem vX8_22 : ex_S RX8 22 mJ7_fill_53178 2 := ⟨cmJ7_fill_53178, (ex_tw 422 (by rfl) rfl), (Or.inl (ex_tw 421 (by rfl) rfl))⟩
set_option maxRecDepth 20000 in
theorem vX8_41 : ex_S RX8 41 mX8_standingFor 3 := ⟨cmX8_standingFor, (ex_tw 425 (by rfl) rfl), (Or.inl (ex_tw 424 (by rfl) rfl))⟩
set_option maxRecDepth 20000 in
theorem vX8_78 : ex_S RX8 78 mJ9_floorMod_7cf53 2 := ⟨cmJ9_floorMod_7cf53, (ex_tw 429 (by rfl) rfl), (Or.inl (ex_tw 428 (by rfl) rfl))⟩
set_option maxRecDepth 20000 in
theorem vX8_83 : ex_S RX8 83 mJ9_min_7cf53 2 := ⟨cmJ9_min_7cf53, (ex_tw 432 (by rfl) rfl), (Or.inl (ex_tw 431 (by rfl) rfl))⟩
set_option maxRecDepth 20000 in
theorem vX8_45 : ex_V RX8 45 mX8_countRow 5 := ⟨cmX8_countRow, (ex_tw 434 (by rfl) rfl), (ex_tw 436 (by rfl) rfl), (ex_ts 2 (by rfl) rfl)⟩
set_option maxRecDepth 20000 in
theorem vX8_60 : ex_V RX8 60 mX8_count 2 := ⟨cmX8_count, (ex_tw 438 (by rfl) rfl), (ex_tw 440 (by rfl) rfl), (ex_ts 3 (by rfl) rfl)⟩
set_option maxRecDepth 20000 in
theorem vX8_49 : ex_V RX8 49 mX4_isMasked 2 := ⟨cmX4_isMasked, (ex_tw 442 (by rfl) rfl), (ex_tw 340 (by rfl) rfl), (ex_tw 341 (by rfl) rfl)⟩
set_option maxRecDepth 20000 in
theorem vX8_53 : ex_V RX8 53 mX4_greyOf 2 := ⟨cmX4_greyOf, (ex_tw 443 (by rfl) rfl), (ex_tw 328 (by rfl) rfl), (ex_tw 329 (by rfl) rfl)⟩
set_option maxRecDepth 20000 in
theorem vX9_181 : ex_V RX9 181 mX8_ranked 1 := ⟨cmX8_ranked, (ex_tw 444 (by rfl) rfl), (ex_tw 445 (by rfl) rfl), (ex_tw 446 (by rfl) rfl)⟩
set_option maxRecDepth 20000 in
theorem vX9_187 : ex_V RX9 187 mX8_countedBelow 1 := ⟨cmX8_countedBelow, (ex_tw 448 (by rfl) rfl), (ex_tw 449 (by rfl) rfl), (ex_tw 450 (by rfl) rfl)⟩
set_option maxRecDepth 20000 in
theorem vX9_190 : ex_V RX9 190 mX8_spread 0 := ⟨cmX8_spread, (ex_tw 452 (by rfl) rfl), (ex_tw 453 (by rfl) rfl), (ex_tw 454 (by rfl) rfl)⟩
set_option maxRecDepth 20000 in
theorem vX8_64 : ex_V RX8 64 mX8_ranked 1 := ⟨cmX8_ranked, (ex_tw 456 (by rfl) rfl), (ex_tw 445 (by rfl) rfl), (ex_tw 446 (by rfl) rfl)⟩
set_option maxRecDepth 20000 in
theorem vL_58 : ex_V RL 58 mX9_bins 1 := ⟨cmX9_bins, (ex_tw 457 (by rfl) rfl), (ex_tw 458 (by rfl) rfl), (ex_tw 459 (by rfl) rfl)⟩
set_option maxRecDepth 20000 in
theorem vX9_193 : ex_V RX9 193 mX9_lastOf 3 := ⟨cmX9_lastOf, (ex_tw 461 (by rfl) rfl), (ex_tw 463 (by rfl) rfl), (ex_ts 4 (by rfl) rfl)⟩
set_option maxRecDepth 20000 in
theorem vL_62 : ex_V RL 62 mX9_spikes 2 := ⟨cmX9_spikes, (ex_tw 465 (by rfl) rfl), (ex_tw 466 (by rfl) rfl), (ex_tw 467 (by rfl) rfl)⟩
set_option maxRecDepth 20000 in
theorem vX9_197 : ex_S RX9 197 mJ9_abs_0f7a4 1 := ⟨cmJ9_abs_0f7a4, (ex_tw 470 (by rfl) rfl), (Or.inl (ex_tw 469 (by rfl) rfl))⟩
set_option maxRecDepth 20000 in
theorem vL_67 : ex_V RL 67 mX9_dot 3 := ⟨cmX9_dot, (ex_tw 472 (by rfl) rfl), (ex_tw 473 (by rfl) rfl), (ex_tw 474 (by rfl) rfl)⟩
set_option maxRecDepth 20000 in
theorem vX9_202 : ex_V RX9 202 mX4_setGrey 3 := ⟨cmX4_setGrey, (ex_tw 476 (by rfl) rfl), (ex_tw 477 (by rfl) rfl), (ex_tw 478 (by rfl) rfl)⟩
set_option maxRecDepth 20000 in
theorem vL_71 : ex_V RL 71 mX9_mask 3 := ⟨cmX9_mask, (ex_tw 480 (by rfl) rfl), (ex_tw 481 (by rfl) rfl), (ex_tw 482 (by rfl) rfl)⟩
set_option maxRecDepth 20000 in
theorem vX9_206 : ex_V RX9 206 mX4_setMasked 3 := ⟨cmX4_setMasked, (ex_tw 484 (by rfl) rfl), (ex_tw 485 (by rfl) rfl), (ex_tw 486 (by rfl) rfl)⟩
set_option maxRecDepth 20000 in
theorem vL_76 : ex_V RL 76 mX9_turn 1 := ⟨cmX9_turn, (ex_tw 488 (by rfl) rfl), (ex_tw 489 (by rfl) rfl), (ex_tw 490 (by rfl) rfl)⟩
set_option maxRecDepth 20000 in
theorem vX9_211 : ex_V RX9 211 mX4_becomeTurned 2 := ⟨cmX4_becomeTurned, (ex_tw 493 (by rfl) rfl), (ex_tw 494 (by rfl) rfl), (ex_tw 495 (by rfl) rfl)⟩
set_option maxRecDepth 20000 in
theorem vX4_46 : ex_V RX4 46 mX4_setGrey 3 := ⟨cmX4_setGrey, (ex_tw 497 (by rfl) rfl), (ex_tw 477 (by rfl) rfl), (ex_tw 478 (by rfl) rfl)⟩
set_option maxRecDepth 20000 in
theorem vX4_53 : ex_V RX4 53 mX4_setMasked 3 := ⟨cmX4_setMasked, (ex_tw 498 (by rfl) rfl), (ex_tw 485 (by rfl) rfl), (ex_tw 486 (by rfl) rfl)⟩
set_option maxRecDepth 20000 in
theorem vL_80 : ex_V RL 80 mX9_filtered 1 := ⟨cmX9_filtered, (ex_tw 499 (by rfl) rfl), (ex_tw 500 (by rfl) rfl), (ex_tw 501 (by rfl) rfl)⟩
set_option maxRecDepth 20000 in
theorem vX9_215 : ex_V RX9 215 mX9_apply 1 := ⟨cmX9_apply, (ex_tw 503 (by rfl) rfl), (ex_tw 505 (by rfl) rfl), (ex_ts 5 (by rfl) rfl)⟩
set_option maxRecDepth 20000 in
theorem vX9_218 : ex_V RX9 218 mX4_greysOtherThan 1 := ⟨cmX4_greysOtherThan, (ex_tw 507 (by rfl) rfl), (ex_tw 508 (by rfl) rfl), (ex_tw 509 (by rfl) rfl)⟩
set_option maxRecDepth 20000 in
theorem vL_84 : ex_V RL 84 mX9_all 0 := ⟨cmX9_all, (ex_tw 511 (by rfl) rfl), (ex_tw 512 (by rfl) rfl), (ex_tw 513 (by rfl) rfl)⟩
set_option maxRecDepth 20000 in
theorem vL_88 : ex_V RL 88 mX9_until 2 := ⟨cmX9_until, (ex_tw 515 (by rfl) rfl), (ex_tw 516 (by rfl) rfl), (ex_tw 517 (by rfl) rfl)⟩
set_option maxRecDepth 20000 in
theorem vL_92 : ex_V RL 92 mX9_noise 1 := ⟨cmX9_noise, (ex_tw 519 (by rfl) rfl), (ex_tw 520 (by rfl) rfl), (ex_tw 521 (by rfl) rfl)⟩
set_option maxRecDepth 20000 in
theorem vX9_221 : ex_V RX9 221 mX6_speckle 0 := ⟨cmX6_speckle, (ex_tw 523 (by rfl) rfl), (ex_tw 524 (by rfl) rfl), (ex_tw 525 (by rfl) rfl)⟩
set_option maxRecDepth 20000 in
theorem vX6_42 : ex_V RX6 42 mX6_draw 1 := ⟨cmX6_draw, (ex_tw 527 (by rfl) rfl), (ex_tw 529 (by rfl) rfl), (ex_ts 6 (by rfl) rfl)⟩
set_option maxRecDepth 20000 in
theorem vX6_49 : ex_V RX6 49 mX4_setGrey 3 := ⟨cmX4_setGrey, (ex_tw 535 (by rfl) rfl), (ex_tw 477 (by rfl) rfl), (ex_tw 478 (by rfl) rfl)⟩
set_option maxRecDepth 20000 in
theorem vL_96 : ex_V RL 96 mX9_undo 1 := ⟨cmX9_undo, (ex_tw 536 (by rfl) rfl), (ex_tw 537 (by rfl) rfl), (ex_tw 538 (by rfl) rfl)⟩
set_option maxRecDepth 20000 in
theorem vX9_227 : ex_V RX9 227 mX3_takeBack 2 := ⟨cmX3_takeBack, (ex_tw 540 (by rfl) rfl), (ex_tw 541 (by rfl) rfl), (ex_tw 542 (by rfl) rfl)⟩
set_option maxRecDepth 20000 in
theorem vL_100 : ex_V RL 100 mX9_write 3 := ⟨cmX9_write, (ex_tw 545 (by rfl) rfl), (ex_tw 546 (by rfl) rfl), (ex_tw 547 (by rfl) rfl)⟩
set_option maxRecDepth 20000 in
theorem vX9_231 : ex_V RX9 231 mX0_add 3 := ⟨cmX0_add, (ex_tw 549 (by rfl) rfl), (ex_tw 550 (by rfl) rfl), (ex_tw 551 (by rfl) rfl)⟩
set_option maxRecDepth 20000 in
theorem vL_104 : ex_V RL 104 mX9_tear 0 := ⟨cmX9_tear, (ex_tw 554 (by rfl) rfl), (ex_tw 555 (by rfl) rfl), (ex_tw 556 (by rfl) rfl)⟩
set_option maxRecDepth 20000 in
theorem vL_108 : ex_V RL 108 mX9_seed 1 := ⟨cmX9_seed, (ex_tw 558 (by rfl) rfl), (ex_tw 559 (by rfl) rfl), (ex_tw 560 (by rfl) rfl)⟩
set_option maxRecDepth 20000 in
theorem vL_112 : ex_V RL 112 mX9_keep 1 := ⟨cmX9_keep, (ex_tw 562 (by rfl) rfl), (ex_tw 563 (by rfl) rfl), (ex_tw 564 (by rfl) rfl)⟩
set_option maxRecDepth 20000 in
theorem vX9_234 : ex_V RX9 234 mX6_become 1 := ⟨cmX6_become, (ex_tw 566 (by rfl) rfl), (ex_tw 567 (by rfl) rfl), (ex_tw 568 (by rfl) rfl)⟩
set_option maxRecDepth 20000 in
theorem vX6_32 : ex_V RX6 32 mX4_become 1 := ⟨cmX4_become, (ex_tw 570 (by rfl) rfl), (ex_tw 285 (by rfl) rfl), (ex_tw 286 (by rfl) rfl)⟩
set_option maxRecDepth 20000 in
theorem vX6_36 : ex_V RX6 36 mX2_become 1 := ⟨cmX2_become, (ex_tw 571 (by rfl) rfl), (ex_tw 572 (by rfl) rfl), (ex_tw 573 (by rfl) rfl)⟩
set_option maxRecDepth 20000 in
theorem vX9_237 : ex_V RX9 237 mX3_forget 0 := ⟨cmX3_forget, (ex_tw 575 (by rfl) rfl), (ex_tw 576 (by rfl) rfl), (ex_tw 577 (by rfl) rfl)⟩
set_option maxRecDepth 20000 in
theorem vL_116 : ex_V RL 116 mX9_goBack 1 := ⟨cmX9_goBack, (ex_tw 579 (by rfl) rfl), (ex_tw 580 (by rfl) rfl), (ex_tw 581 (by rfl) rfl)⟩
set_option maxRecDepth 20000 in
theorem vL_120 : ex_V RL 120 mX9_against 1 := ⟨cmX9_against, (ex_tw 583 (by rfl) rfl), (ex_tw 584 (by rfl) rfl), (ex_tw 585 (by rfl) rfl)⟩
set_option maxRecDepth 20000 in
theorem vX9_240 : ex_V RX9 240 mX4_dotsOtherThan 1 := ⟨cmX4_dotsOtherThan, (ex_tw 587 (by rfl) rfl), (ex_tw 588 (by rfl) rfl), (ex_tw 589 (by rfl) rfl)⟩
set_option maxRecDepth 20000 in
theorem vL_12 : ex_I RL 12 mX10_init 0 := ⟨cmX10_init, (ex_tw 594 (by rfl) rfl), rfl, rfl, (Or.inl (ex_tw 593 (by rfl) rfl))⟩
set_option maxRecDepth 20000 in
theorem oX10_1 : Cond.methodLink RX10 1 Lib.objectInit ∈ ex_g := (ex_tw 596 (by rfl) rfl)
set_option maxRecDepth 20000 in
theorem vL_17 : ex_V RL 17 mX10_feed 1 := ⟨cmX10_feed, (ex_tw 667 (by rfl) rfl), (ex_tw 668 (by rfl) rfl), (ex_tw 669 (by rfl) rfl)⟩
set_option maxRecDepth 20000 in
theorem vX10_58 : ex_S RX10 58 mX10_in 3 := ⟨cmX10_in, (ex_tw 673 (by rfl) rfl), (Or.inl (ex_tw 672 (by rfl) rfl))⟩
set_option maxRecDepth 20000 in
theorem vL_22 : ex_V RL 22 mX10_picture 0 := ⟨cmX10_picture, (ex_tw 677 (by rfl) rfl), (ex_tw 678 (by rfl) rfl), (ex_tw 679 (by rfl) rfl)⟩
set_option maxRecDepth 20000 in
theorem vX10_112 : ex_V RX10 112 mX10_readText 0 := ⟨cmX10_readText, (ex_tw 681 (by rfl) rfl), (ex_tw 683 (by rfl) rfl), (ex_ts 7 (by rfl) rfl)⟩
set_option maxRecDepth 20000 in
theorem vX10_101 : ex_V RX10 101 mX10_faultOf 1 := ⟨cmX10_faultOf, (ex_tw 685 (by rfl) rfl), (ex_tw 687 (by rfl) rfl), (ex_ts 8 (by rfl) rfl)⟩
set_option maxRecDepth 20000 in
theorem vX10_90 : ex_V RX10 90 mX10_faultOfBreak 0 := ⟨cmX10_faultOfBreak, (ex_tw 689 (by rfl) rfl), (ex_tw 691 (by rfl) rfl), (ex_ts 9 (by rfl) rfl)⟩
set_option maxRecDepth 20000 in
theorem vX10_86 : ex_V RX10 86 mX10_isShort 0 := ⟨cmX10_isShort, (ex_tw 693 (by rfl) rfl), (ex_tw 695 (by rfl) rfl), (ex_ts 10 (by rfl) rfl)⟩
set_option maxRecDepth 20000 in
theorem vX10_94 : ex_S RX10 94 mX10_figure 1 := ⟨cmX10_figure, (ex_tw 698 (by rfl) rfl), (Or.inl (ex_tw 697 (by rfl) rfl))⟩
set_option maxRecDepth 20000 in
theorem vX10_104 : ex_V RX10 104 mX10_goOn 1 := ⟨cmX10_goOn, (ex_tw 704 (by rfl) rfl), (ex_tw 706 (by rfl) rfl), (ex_ts 11 (by rfl) rfl)⟩
set_option maxRecDepth 20000 in
theorem vX10_115 : ex_V RX10 115 mX10_remember 0 := ⟨cmX10_remember, (ex_tw 708 (by rfl) rfl), (ex_tw 710 (by rfl) rfl), (ex_ts 12 (by rfl) rfl)⟩
set_option maxRecDepth 20000 in
theorem vX10_47 : ex_V RX10 47 mX10_copyRow 2 := ⟨cmX10_copyRow, (ex_tw 712 (by rfl) rfl), (ex_tw 714 (by rfl) rfl), (ex_ts 13 (by rfl) rfl)⟩
set_option maxRecDepth 20000 in
theorem vX10_118 : ex_V RX10 118 mX10_layPicture 0 := ⟨cmX10_layPicture, (ex_tw 716 (by rfl) rfl), (ex_tw 718 (by rfl) rfl), (ex_ts 14 (by rfl) rfl)⟩
set_option maxRecDepth 20000 in
theorem vX10_54 : ex_V RX10 54 mX10_place 2 := ⟨cmX10_place, (ex_tw 720 (by rfl) rfl), (ex_tw 722 (by rfl) rfl), (ex_ts 15 (by rfl) rfl)⟩
set_option maxRecDepth 20000 in
theorem vL_26 : ex_V RL 26 mX10_fault 0 := ⟨cmX10_fault, (ex_tw 724 (by rfl) rfl), (ex_tw 725 (by rfl) rfl), (ex_tw 726 (by rfl) rfl)⟩
set_option maxRecDepth 20000 in
theorem vL_30 : ex_V RL 30 mX10_told 1 := ⟨cmX10_told, (ex_tw 728 (by rfl) rfl), (ex_tw 729 (by rfl) rfl), (ex_tw 730 (by rfl) rfl)⟩
set_option maxRecDepth 20000 in
theorem vX10_166 : ex_V RX10 166 mX10_masked 0 := ⟨cmX10_masked, (ex_tw 732 (by rfl) rfl), (ex_tw 734 (by rfl) rfl), (ex_ts 16 (by rfl) rfl)⟩
set_option maxRecDepth 20000 in
theorem vX10_62 : ex_V RX10 62 mX10_isMasked 2 := ⟨cmX10_isMasked, (ex_tw 736 (by rfl) rfl), (ex_tw 738 (by rfl) rfl), (ex_ts 17 (by rfl) rfl)⟩
set_option maxRecDepth 20000 in
theorem vX10_169 : ex_V RX10 169 mX10_ofGreys 1 := ⟨cmX10_ofGreys, (ex_tw 740 (by rfl) rfl), (ex_tw 742 (by rfl) rfl), (ex_ts 18 (by rfl) rfl)⟩
set_option maxRecDepth 20000 in
theorem vX10_137 : ex_V RX10 137 mX10_grey 2 := ⟨cmX10_grey, (ex_tw 744 (by rfl) rfl), (ex_tw 746 (by rfl) rfl), (ex_ts 19 (by rfl) rfl)⟩
set_option maxRecDepth 20000 in
theorem vX10_172 : ex_V RX10 172 mX10_wrong 0 := ⟨cmX10_wrong, (ex_tw 748 (by rfl) rfl), (ex_tw 750 (by rfl) rfl), (ex_ts 20 (by rfl) rfl)⟩
set_option maxRecDepth 20000 in
theorem vX10_140 : ex_V RX10 140 mX10_isDot 2 := ⟨cmX10_isDot, (ex_tw 752 (by rfl) rfl), (ex_tw 754 (by rfl) rfl), (ex_ts 21 (by rfl) rfl)⟩
set_option maxRecDepth 20000 in
theorem vL_35 : ex_V RL 35 mX10_at 3 := ⟨cmX10_at, (ex_tw 756 (by rfl) rfl), (ex_tw 757 (by rfl) rfl), (ex_tw 758 (by rfl) rfl)⟩
set_option maxRecDepth 20000 in
theorem vL_40 : ex_V RL 40 mX10_tally 5 := ⟨cmX10_tally, (ex_tw 761 (by rfl) rfl), (ex_tw 762 (by rfl) rfl), (ex_tw 763 (by rfl) rfl)⟩
set_option maxRecDepth 20000 in
theorem vL_44 : ex_V RL 44 mX10_filter 5 := ⟨cmX10_filter, (ex_tw 767 (by rfl) rfl), (ex_tw 768 (by rfl) rfl), (ex_tw 769 (by rfl) rfl)⟩
set_option maxRecDepth 20000 in
theorem vL_48 : ex_V RL 48 mX10_drop 1 := ⟨cmX10_drop, (ex_tw 774 (by rfl) rfl), (ex_tw 775 (by rfl) rfl), (ex_tw 776 (by rfl) rfl)⟩
set_option maxRecDepth 20000 in
theorem vX10_186 : ex_V RX10 186 mX10_isFilter 1 := ⟨cmX10_isFilter, (ex_tw 778 (by rfl) rfl), (ex_tw 780 (by rfl) rfl), (ex_ts 22 (by rfl) rfl)⟩
set_option maxRecDepth 20000 in
theorem vL_52 : ex_V RL 52 mX10_fill 1 := ⟨cmX10_fill, (ex_tw 782 (by rfl) rfl), (ex_tw 783 (by rfl) rfl), (ex_tw 784 (by rfl) rfl)⟩
set_option maxRecDepth 20000 in
theorem vL_57 : ex_V RL 57 mX10_would 4 := ⟨cmX10_would, (ex_tw 786 (by rfl) rfl), (ex_tw 787 (by rfl) rfl), (ex_tw 788 (by rfl) rfl)⟩
set_option maxRecDepth 20000 in
theorem vX10_157 : ex_V RX10 157 mX10_lastOf 3 := ⟨cmX10_lastOf, (ex_tw 790 (by rfl) rfl), (ex_tw 792 (by rfl) rfl), (ex_ts 23 (by rfl) rfl)⟩
set_option maxRecDepth 20000 in
theorem vX10_154 : ex_V RX10 154 mX10_layWindow 3 := ⟨cmX10_layWindow, (ex_tw 794 (by rfl) rfl), (ex_tw 796 (by rfl) rfl), (ex_ts 24 (by rfl) rfl)⟩
set_option maxRecDepth 20000 in
theorem vX10_143 : ex_V RX10 143 mX10_part 2 := ⟨cmX10_part, (ex_tw 798 (by rfl) rfl), (ex_tw 800 (by rfl) rfl), (ex_ts 25 (by rfl) rfl)⟩
set_option maxRecDepth 20000 in
theorem vX10_150 : ex_V RX10 150 mX10_countAt 4 := ⟨cmX10_countAt, (ex_tw 802 (by rfl) rfl), (ex_tw 804 (by rfl) rfl), (ex_ts 26 (by rfl) rfl)⟩
set_option maxRecDepth 20000 in
theorem vX10_146 : ex_V RX10 146 mX10_countOut 3 := ⟨cmX10_countOut, (ex_tw 806 (by rfl) rfl), (ex_tw 808 (by rfl) rfl), (ex_ts 27 (by rfl) rfl)⟩
set_option maxRecDepth 20000 in
theorem vX10_130 : ex_V RX10 130 mX10_count 1 := ⟨cmX10_count, (ex_tw 810 (by rfl) rfl), (ex_tw 812 (by rfl) rfl), (ex_ts 28 (by rfl) rfl)⟩
set_option maxRecDepth 20000 in
theorem vX10_133 : ex_S RX10 133 mX10_standIn 3 := ⟨cmX10_standIn, (ex_tw 815 (by rfl) rfl), (Or.inl (ex_tw 814 (by rfl) rfl))⟩
set_option maxRecDepth 20000 in
theorem vX10_124 : ex_S RX10 124 mX10_leftOver 2 := ⟨cmX10_leftOver, (ex_tw 818 (by rfl) rfl), (Or.inl (ex_tw 817 (by rfl) rfl))⟩
set_option maxRecDepth 20000 in
theorem vX10_190 : ex_V RX10 190 mX10_below 1 := ⟨cmX10_below, (ex_tw 820 (by rfl) rfl), (ex_tw 822 (by rfl) rfl), (ex_ts 29 (by rfl) rfl)⟩
set_option maxRecDepth 20000 in
theorem vL_61 : ex_V RL 61 mX10_bins 1 := ⟨cmX10_bins, (ex_tw 824 (by rfl) rfl), (ex_tw 825 (by rfl) rfl), (ex_tw 826 (by rfl) rfl)⟩
set_option maxRecDepth 20000 in
theorem vL_66 : ex_V RL 66 mX10_spikes 2 := ⟨cmX10_spikes, (ex_tw 828 (by rfl) rfl), (ex_tw 829 (by rfl) rfl), (ex_tw 830 (by rfl) rfl)⟩
set_option maxRecDepth 20000 in
theorem vL_70 : ex_V RL 70 mX10_dot 3 := ⟨cmX10_dot, (ex_tw 832 (by rfl) rfl), (ex_tw 833 (by rfl) rfl), (ex_tw 834 (by rfl) rfl)⟩
set_option maxRecDepth 20000 in
theorem vX10_160 : ex_V RX10 160 mX10_setGrey 3 := ⟨cmX10_setGrey, (ex_tw 836 (by rfl) rfl), (ex_tw 838 (by rfl) rfl), (ex_ts 30 (by rfl) rfl)⟩
set_option maxRecDepth 20000 in
theorem vL_75 : ex_V RL 75 mX10_mask 3 := ⟨cmX10_mask, (ex_tw 840 (by rfl) rfl), (ex_tw 841 (by rfl) rfl), (ex_tw 842 (by rfl) rfl)⟩
set_option maxRecDepth 20000 in
theorem vL_79 : ex_V RL 79 mX10_turn 1 := ⟨cmX10_turn, (ex_tw 844 (by rfl) rfl), (ex_tw 845 (by rfl) rfl), (ex_tw 846 (by rfl) rfl)⟩
set_option maxRecDepth 20000 in
theorem vX10_196 : ex_V RX10 196 mX10_turnedFrom 3 := ⟨cmX10_turnedFrom, (ex_tw 850 (by rfl) rfl), (ex_tw 852 (by rfl) rfl), (ex_ts 31 (by rfl) rfl)⟩
set_option maxRecDepth 20000 in
theorem vL_83 : ex_V RL 83 mX10_filtered 1 := ⟨cmX10_filtered, (ex_tw 854 (by rfl) rfl), (ex_tw 855 (by rfl) rfl), (ex_tw 856 (by rfl) rfl)⟩
set_option maxRecDepth 20000 in
theorem vX10_199 : ex_V RX10 199 mX10_applyNow 1 := ⟨cmX10_applyNow, (ex_tw 858 (by rfl) rfl), (ex_tw 860 (by rfl) rfl), (ex_ts 32 (by rfl) rfl)⟩
set_option maxRecDepth 20000 in
theorem vL_87 : ex_V RL 87 mX10_all 0 := ⟨cmX10_all, (ex_tw 862 (by rfl) rfl), (ex_tw 863 (by rfl) rfl), (ex_tw 864 (by rfl) rfl)⟩
set_option maxRecDepth 20000 in
theorem vL_91 : ex_V RL 91 mX10_until 2 := ⟨cmX10_until, (ex_tw 866 (by rfl) rfl), (ex_tw 867 (by rfl) rfl), (ex_tw 868 (by rfl) rfl)⟩
set_option maxRecDepth 20000 in
theorem vL_95 : ex_V RL 95 mX10_noise 1 := ⟨cmX10_noise, (ex_tw 871 (by rfl) rfl), (ex_tw 872 (by rfl) rfl), (ex_tw 873 (by rfl) rfl)⟩
set_option maxRecDepth 20000 in
theorem vX10_216 : ex_V RX10 216 mX10_draw 1 := ⟨cmX10_draw, (ex_tw 876 (by rfl) rfl), (ex_tw 878 (by rfl) rfl), (ex_ts 33 (by rfl) rfl)⟩
set_option maxRecDepth 20000 in
theorem vL_99 : ex_V RL 99 mX10_undo 1 := ⟨cmX10_undo, (ex_tw 884 (by rfl) rfl), (ex_tw 885 (by rfl) rfl), (ex_tw 886 (by rfl) rfl)⟩
set_option maxRecDepth 20000 in
theorem vL_103 : ex_V RL 103 mX10_write 3 := ⟨cmX10_write, (ex_tw 889 (by rfl) rfl), (ex_tw 890 (by rfl) rfl), (ex_tw 891 (by rfl) rfl)⟩
set_option maxRecDepth 20000 in
theorem vL_107 : ex_V RL 107 mX10_tear 0 := ⟨cmX10_tear, (ex_tw 893 (by rfl) rfl), (ex_tw 894 (by rfl) rfl), (ex_tw 895 (by rfl) rfl)⟩
set_option maxRecDepth 20000 in
theorem vL_111 : ex_V RL 111 mX10_seed 1 := ⟨cmX10_seed, (ex_tw 897 (by rfl) rfl), (ex_tw 898 (by rfl) rfl), (ex_tw 899 (by rfl) rfl)⟩
set_option maxRecDepth 20000 in
theorem vL_115 : ex_V RL 115 mX10_keep 1 := ⟨cmX10_keep, (ex_tw 901 (by rfl) rfl), (ex_tw 902 (by rfl) rfl), (ex_tw 903 (by rfl) rfl)⟩
set_option maxRecDepth 20000 in
theorem vL_119 : ex_V RL 119 mX10_goBack 1 := ⟨cmX10_goBack, (ex_tw 905 (by rfl) rfl), (ex_tw 906 (by rfl) rfl), (ex_tw 907 (by rfl) rfl)⟩
set_option maxRecDepth 20000 in
theorem vX10_224 : ex_V RX10 224 mX10_isKept 1 := ⟨cmX10_isKept, (ex_tw 909 (by rfl) rfl), (ex_tw 911 (by rfl) rfl), (ex_ts 34 (by rfl) rfl)⟩
set_option maxRecDepth 20000 in
theorem vL_123 : ex_V RL 123 mX10_against 1 := ⟨cmX10_against, (ex_tw 913 (by rfl) rfl), (ex_tw 914 (by rfl) rfl), (ex_tw 915 (by rfl) rfl)⟩
theorem vX9_9 : ex_I RX9 9 mX7_init 0 := ⟨cmX7_init, (ex_tw 25 (by rfl) rfl), rfl, rfl, (Or.inr ⟨_, ex_tn 24 (by rfl)⟩)⟩
theorem vX9_18 : ex_I RX9 18 mX6_init 0 := ⟨cmX6_init, (ex_tw 43 (by rfl) rfl), rfl, rfl, (Or.inr ⟨_, ex_tn 42 (by rfl)⟩)⟩
theorem vX6_11 : ex_I RX6 11 mX4_init 0 := ⟨cmX4_init, (ex_tw 49 (by rfl) rfl), rfl, rfl, (Or.inr ⟨_, ex_tn 48 (by rfl)⟩)⟩
theorem vX6_20 : ex_I RX6 20 mX2_init 0 := ⟨cmX2_init, (ex_tw 75 (by rfl) rfl), rfl, rfl, (Or.inr ⟨_, ex_tn 74 (by rfl)⟩)⟩
theorem vX3_22 : ex_I RX3 22 mX4_init 0 := ⟨cmX4_init, (ex_tw 49 (by rfl) rfl), rfl, rfl, (Or.inr ⟨_, ex_tn 114 (by rfl)⟩)⟩
theorem vX9_40 : ex_I RX9 40 mX0_init 0 := ⟨cmX0_init, (ex_tw 129 (by rfl) rfl), rfl, rfl, (Or.inr ⟨_, ex_tn 128 (by rfl)⟩)⟩
theorem vX9_47 : ex_I RX9 47 mX8_init 0 := ⟨cmX8_init, (ex_tw 149 (by rfl) rfl), rfl, rfl, (Or.inr ⟨_, ex_tn 148 (by rfl)⟩)⟩
theorem vX9_54 : ex_I RX9 54 mX4_init 0 := ⟨cmX4_init, (ex_tw 49 (by rfl) rfl), rfl, rfl, (Or.inr ⟨_, ex_tn 164 (by rfl)⟩)⟩
theorem vX4_30 : ex_S RX4 30 mX9_within 3 := ⟨cmX9_within, (ex_tw 201 (by rfl) rfl), (Or.inr ⟨_, ex_tn 254 (by rfl)⟩)⟩
theorem vX5_55 : ex_S RX5 55 mX9_within 3 := ⟨cmX9_within, (ex_tw 201 (by rfl) rfl), (Or.inr ⟨_, ex_tn 258 (by rfl)⟩)⟩
set_option maxRecDepth 20000 in
theorem vX2_21 : ex_S RX2 21 mX9_within 3 := ⟨cmX9_within, (ex_tw 201 (by rfl) rfl), (Or.inr ⟨_, ex_tn 403 (by rfl)⟩)⟩
set_option maxRecDepth 20000 in
theorem vX8_74 : ex_S RX8 74 mX9_within 3 := ⟨cmX9_within, (ex_tw 201 (by rfl) rfl), (Or.inr ⟨_, ex_tn 427 (by rfl)⟩)⟩
set_option maxRecDepth 20000 in
theorem vX3_27 : ex_S RX3 27 mX9_within 3 := ⟨cmX9_within, (ex_tw 201 (by rfl) rfl), (Or.inr ⟨_, ex_tn 544 (by rfl)⟩)⟩
theorem kX9_70 : Cond.constant RX9 70 (-1000000002) ∈ ex_g := (ex_tw 203 (by rfl) rfl)
theorem kX7_22 : Cond.constant RX7 22 (-1000000004) ∈ ex_g := (ex_tw 208 (by rfl) rfl)
theorem kX9_141 : Cond.constant RX9 141 (-1000000001) ∈ ex_g := (ex_tw 337 (by rfl) rfl)
theorem kX9_157 : Cond.constant RX9 157 (-1000000004) ∈ ex_g := (ex_tw 361 (by rfl) rfl)
theorem kX2_29 : Cond.constant RX2 29 (-1000000004) ∈ ex_g := (ex_tw 394 (by rfl) rfl)
set_option maxRecDepth 20000 in
theorem kX2_30 : Cond.constant RX2 30 (-1000000001) ∈ ex_g := (ex_tw 408 (by rfl) rfl)
set_option maxRecDepth 20000 in
theorem kX9_210 : Cond.constant RX9 210 (-1000000003) ∈ ex_g := (ex_tw 492 (by rfl) rfl)
set_option maxRecDepth 20000 in
theorem kX6_59 : Cond.constant RX6 59 (65536) ∈ ex_g := (ex_tw 534 (by rfl) rfl)
set_option maxRecDepth 20000 in
theorem kX0_25 : Cond.constant RX0 25 (-1000000004) ∈ ex_g := (ex_tw 553 (by rfl) rfl)
set_option maxRecDepth 20000 in
theorem kX10_110 : Cond.constant RX10 110 (-1000000002) ∈ ex_g := (ex_tw 675 (by rfl) rfl)
set_option maxRecDepth 20000 in
theorem kX10_111 : Cond.constant RX10 111 (-1000000004) ∈ ex_g := (ex_tw 676 (by rfl) rfl)
set_option maxRecDepth 20000 in
theorem kX10_175 : Cond.constant RX10 175 (-1000000001) ∈ ex_g := (ex_tw 760 (by rfl) rfl)
set_option maxRecDepth 20000 in
theorem kX10_195 : Cond.constant RX10 195 (-1000000003) ∈ ex_g := (ex_tw 849 (by rfl) rfl)
set_option maxRecDepth 20000 in
theorem kX10_213 : Cond.constant RX10 213 (65536) ∈ ex_g := (ex_tw 883 (by rfl) rfl)
set_option maxRecDepth 20000 in
theorem kX6_53 : Cond.constantLong RX6 53 (1103515245) ∈ ex_g := (ex_tw 531 (by rfl) rfl)
set_option maxRecDepth 20000 in
theorem kX6_55 : Cond.constantLong RX6 55 (12345) ∈ ex_g := (ex_tw 532 (by rfl) rfl)
set_option maxRecDepth 20000 in
theorem kX6_57 : Cond.constantLong RX6 57 (2147483648) ∈ ex_g := (ex_tw 533 (by rfl) rfl)
set_option maxRecDepth 20000 in
theorem kX10_108 : Cond.constantLong RX10 108 (255) ∈ ex_g := (ex_tw 671 (by rfl) rfl)
set_option maxRecDepth 20000 in
theorem kX10_66 : Cond.constantLong RX10 66 (48) ∈ ex_g := (ex_tw 700 (by rfl) rfl)
set_option maxRecDepth 20000 in
theorem kX10_68 : Cond.constantLong RX10 68 (57) ∈ ex_g := (ex_tw 701 (by rfl) rfl)
set_option maxRecDepth 20000 in
theorem kX10_70 : Cond.constantLong RX10 70 (97) ∈ ex_g := (ex_tw 702 (by rfl) rfl)
set_option maxRecDepth 20000 in
theorem kX10_72 : Cond.constantLong RX10 72 (102) ∈ ex_g := (ex_tw 703 (by rfl) rfl)
set_option maxRecDepth 20000 in
theorem kX10_176 : Cond.constantLong RX10 176 (-1) ∈ ex_g := (ex_tw 765 (by rfl) rfl)
set_option maxRecDepth 20000 in
theorem kX10_178 : Cond.constantLong RX10 178 (256) ∈ ex_g := (ex_tw 766 (by rfl) rfl)
set_option maxRecDepth 20000 in
theorem kX10_180 : Cond.constantLong RX10 180 (4) ∈ ex_g := (ex_tw 771 (by rfl) rfl)
set_option maxRecDepth 20000 in
theorem kX10_182 : Cond.constantLong RX10 182 (100) ∈ ex_g := (ex_tw 772 (by rfl) rfl)
set_option maxRecDepth 20000 in
theorem kX10_184 : Cond.constantLong RX10 184 (9) ∈ ex_g := (ex_tw 773 (by rfl) rfl)
set_option maxRecDepth 20000 in
theorem kX10_193 : Cond.constantLong RX10 193 (3) ∈ ex_g := (ex_tw 848 (by rfl) rfl)
set_option maxRecDepth 20000 in
theorem kX10_202 : Cond.constantLong RX10 202 (20) ∈ ex_g := (ex_tw 870 (by rfl) rfl)
set_option maxRecDepth 20000 in
theorem kX10_214 : Cond.constantLong RX10 214 (12) ∈ ex_g := (ex_tw 875 (by rfl) rfl)
set_option maxRecDepth 20000 in
theorem kX10_207 : Cond.constantLong RX10 207 (1103515245) ∈ ex_g := (ex_tw 880 (by rfl) rfl)
set_option maxRecDepth 20000 in
theorem kX10_209 : Cond.constantLong RX10 209 (12345) ∈ ex_g := (ex_tw 881 (by rfl) rfl)
set_option maxRecDepth 20000 in
theorem kX10_211 : Cond.constantLong RX10 211 (2147483648) ∈ ex_g := (ex_tw 882 (by rfl) rfl)
set_option maxRecDepth 20000 in
theorem kX10_219 : Cond.constantLong RX10 219 (16) ∈ ex_g := (ex_tw 888 (by rfl) rfl)
theorem oi_inst : Cond.instanceMethod Lib.objectInit ∈ ex_g := (ex_tw 20 (by rfl) rfl)
theorem oi_code : Cond.code Lib.objectInit ⟨#[0xb1]⟩ 1 none ∈ ex_g := (ex_tw 21 (by rfl) rfl)
theorem ac_int : Cond.arrayClass .int ∈ ex_g := (ex_tw 39 (by rfl) rfl)
theorem ac_boolean : Cond.arrayClass .boolean ∈ ex_g := (ex_tw 71 (by rfl) rfl)
theorem ao_X1 : Cond.arrayOver (.object RX1) ∈ lw_tbl := ex_tn 79 (by rfl)
theorem ao_X6 : Cond.arrayOver (.object RX6) ∈ lw_tbl := ex_tn 105 (by rfl)
theorem ao_X4 : Cond.arrayOver (.object RX4) ∈ lw_tbl := ex_tn 113 (by rfl)
end
