def S0 : SS := ((0, fun _ => 0), -1, ((1, 1, fun _ => 0, fun _ => 0), (0, fun _ => (0, 0, 0, 0, 0)), 0, 0), (fun _ => 0), (fun _ => ((1, 1, fun _ => 0, fun _ => 0), (0, fun _ => (0, 0, 0, 0, 0)), 0, 0)), (0, fun _ => (1, 1, fun _ => 0, fun _ => 0)), (0, fun _ => (0, 0, 0)))
theorem cs_init {d : Nat} {H : ex_H} (h0 : H[0]? = some (ob 9 [.null, .null, .null, .null, .null, .null, .null, .null, .null, .int 0])) (hl : H.length = 1) : ex_Met mX9_init (d + 3) 85 4025 H [.ref 0] (fun H' r => r = none ∧ ex_ch H H' [0] ∧ H'.length = 86 ∧ cl_is H' S0) := by
  refine ex_meth [(0, .ref 0)] rfl rfl rfl (fun b => Nat.le_of_ble_eq_true rfl) ?_
  refine ew_aload_n (M := mX9_init) dX9_init_0 rfl (Or.inr (Or.inl ⟨_, rfl⟩)) ?_
  refine ew_objInit (M := mX9_init) dX9_init_1 oX9_1 oi_inst oi_code (by omega) rfl ?_
  refine ew_aload_n (M := mX9_init) dX9_init_4 rfl (Or.inr (Or.inl ⟨_, rfl⟩)) ?_
  refine ew_new (M := mX9_init) dX9_init_5 nX9_7 (by decide) (by decide) ?_
  obtain ⟨G1, e1, l1, n1, c1⟩ := ex_push hl (ob 7 [.int 0, .null, .int 0])
  refine ew_heap e1 ?_
  rw [hl]
  have l1 : G1.length = 2 := l1
  have h0 := c1.at h0 (by simp)
  have m1 := n1
  refine ew_dup (M := mX9_init) dX9_init_8 rfl ?_
  refine ew_callI (M := mX9_init) dX9_init_9 vX9_9 (sp_Text (a := 1) m1 l1) rfl (Nat.le_of_ble_eq_true rfl) ⟨by decide, by decide⟩ rfl (fun G2 r2 q2 => ?_)
  obtain ⟨rfl, c2, l2, p1⟩ := q2
  have l2 : G2.length = 3 := l2
  have h0 := c2.at h0 (by simp <;> omega)
  refine ew_putF (M := mX9_init) dX9_init_12 fX9_10 rfl rfl h0 (by exact Nat.le_of_ble_eq_true rfl) ⟨rfl, rfl, fun _ h => by cases h⟩ ?_
  obtain ⟨G3, e3, l3, n3, c3⟩ := ex_putc l2 h0 (ob 9 [.ref 1, .null, .null, .null, .null, .null, .null, .null, .null, .int 0])
  refine ew_heap e3 ?_
  have h0 := n3
  refine ew_aload_n (M := mX9_init) dX9_init_15 rfl (Or.inr (Or.inl ⟨_, rfl⟩)) ?_
  refine ew_new (M := mX9_init) dX9_init_16 nX9_16 (by decide) (by decide) ?_
  obtain ⟨G4, e4, l4, n4, c4⟩ := ex_push l3 (ob 6 [.null, .null, .int 0, .int 0])
  refine ew_heap e4 ?_
  rw [l3]
  have l4 : G4.length = 4 := l4
  have h0 := c4.at h0 (by simp)
  have m2 := n4
  refine ew_dup (M := mX9_init) dX9_init_19 rfl ?_
  refine ew_callI (M := mX9_init) dX9_init_20 vX9_18 (sp_State (a := 3) m2 l4) rfl (Nat.le_of_ble_eq_true rfl) ⟨by decide, by decide⟩ rfl (fun G5 r5 q5 => ?_)
  obtain ⟨rfl, c5, l5, p2⟩ := q5
  have l5 : G5.length = 9 := l5
  have h0 := c5.at h0 (by simp <;> omega)
  refine ew_putF (M := mX9_init) dX9_init_23 fX9_19 rfl rfl h0 (by exact Nat.le_of_ble_eq_true rfl) ⟨rfl, rfl, fun _ h => by cases h⟩ ?_
  obtain ⟨G6, e6, l6, n6, c6⟩ := ex_putc l5 h0 (ob 9 [.ref 1, .ref 3, .null, .null, .null, .null, .null, .null, .null, .int 0])
  refine ew_heap e6 ?_
  have h0 := n6
  refine ew_aload_n (M := mX9_init) dX9_init_26 rfl (Or.inr (Or.inl ⟨_, rfl⟩)) ?_
  refine ew_iconst (M := mX9_init) dX9_init_27 (v := nI 2) (by decide) ?_
  refine ew_anew (M := mX9_init) (N := 2) (t0 := 4) dX9_init_28 lX9_16 ao_X6 (fun _ => rfl) (by decide) (by decide) (by decide) (by decide) (by decide) ?_
  obtain ⟨G7, e7, l7, n7, c7⟩ := ex_push l6 (rr RX6 2 (fun _ => none))
  refine ew_heap e7 ?_
  rw [l6]
  have l7 : G7.length = 10 := l7
  have h0 := c7.at h0 (by simp)
  have mA := n7
  refine ew_dup (M := mX9_init) dX9_init_31 rfl ?_
  refine ew_iconst (M := mX9_init) dX9_init_32 (v := nI 0) (by decide) ?_
  refine ew_new (M := mX9_init) dX9_init_33 nX9_16 (by decide) (by decide) ?_
  obtain ⟨G8, e8, l8, n8, c8⟩ := ex_push l7 (ob 6 [.null, .null, .int 0, .int 0])
  refine ew_heap e8 ?_
  rw [l7]
  have l8 : G8.length = 11 := l8
  have h0 := c8.at h0 (by simp)
  have mA := c8.at mA (by simp)
  have m3 := n8
  refine ew_dup (M := mX9_init) dX9_init_36 rfl ?_
  refine ew_callI (M := mX9_init) dX9_init_37 vX9_18 (sp_State (a := 10) m3 l8) rfl (Nat.le_of_ble_eq_true rfl) ⟨by decide, by decide⟩ rfl (fun G9 r9 q9 => ?_)
  obtain ⟨rfl, c9, l9, p3⟩ := q9
  have l9 : G9.length = 16 := l9
  have h0 := c9.at h0 (by simp <;> omega)
  have mA := c9.at mA (by simp <;> omega)
  refine ew_aast (t0 := 4) (M := mX9_init) 0 dX9_init_40 mA (fun _ => rfl) p3.1 rfl ⟨rfl, by omega, by decide⟩ ?_
  obtain ⟨G10, e10, l10, n10, c10⟩ := ex_putc l9 mA (rr RX6 2 (va_up (fun _ => none) 0 (some 10)))
  refine ew_heap e10 ?_
  have h0 := c10.at h0 (by simp <;> omega)
  have mA := n10
  refine ew_dup (M := mX9_init) dX9_init_41 rfl ?_
  refine ew_iconst (M := mX9_init) dX9_init_42 (v := nI 1) (by decide) ?_
  refine ew_new (M := mX9_init) dX9_init_43 nX9_16 (by decide) (by decide) ?_
  obtain ⟨G11, e11, l11, n11, c11⟩ := ex_push l10 (ob 6 [.null, .null, .int 0, .int 0])
  refine ew_heap e11 ?_
  rw [l10]
  have l11 : G11.length = 17 := l11
  have h0 := c11.at h0 (by simp)
  have mA := c11.at mA (by simp)
  have m4 := n11
  refine ew_dup (M := mX9_init) dX9_init_46 rfl ?_
  refine ew_callI (M := mX9_init) dX9_init_47 vX9_18 (sp_State (a := 16) m4 l11) rfl (Nat.le_of_ble_eq_true rfl) ⟨by decide, by decide⟩ rfl (fun G12 r12 q12 => ?_)
  obtain ⟨rfl, c12, l12, p4⟩ := q12
  have l12 : G12.length = 22 := l12
  have h0 := c12.at h0 (by simp <;> omega)
  have mA := c12.at mA (by simp <;> omega)
  refine ew_aast (t0 := 4) (M := mX9_init) 1 dX9_init_50 mA (fun _ => rfl) p4.1 rfl ⟨rfl, by omega, by decide⟩ ?_
  obtain ⟨G13, e13, l13, n13, c13⟩ := ex_putc l12 mA (rr RX6 2 (va_up (va_up (fun _ => none) 0 (some 10)) 1 (some 16)))
  refine ew_heap e13 ?_
  have h0 := c13.at h0 (by simp <;> omega)
  have mA := n13
  refine ew_putF (M := mX9_init) dX9_init_51 fX9_23 rfl rfl h0 (by exact Nat.le_of_ble_eq_true rfl) ⟨rfl, rfl, fun _ h => by cases h⟩ ?_
  obtain ⟨G14, e14, l14, n14, c14⟩ := ex_putc l13 h0 (ob 9 [.ref 1, .ref 3, .ref 9, .null, .null, .null, .null, .null, .null, .int 0])
  refine ew_heap e14 ?_
  have mA := c14.at mA (by simp <;> omega)
  have h0 := n14
  refine ew_aload_n (M := mX9_init) dX9_init_54 rfl (Or.inr (Or.inl ⟨_, rfl⟩)) ?_
  refine ew_iconst (M := mX9_init) dX9_init_55 (v := nI 2) (by decide) ?_
  refine ew_newa (M := mX9_init) (ty := .boolean) (N := 2) (t0 := 1) dX9_init_56 rfl ac_boolean (fun _ => rfl) (fun _ h => by cases h) rfl (by decide) (by decide) (by decide) (by decide) (by decide) ?_
  obtain ⟨G15, e15, l15, n15, c15⟩ := ex_push l14 (ar .boolean 2 (fun _ => 0))
  refine ew_heap e15 ?_
  rw [l14]
  have l15 : G15.length = 23 := l15
  have h0 := c15.at h0 (by simp)
  have mA := c15.at mA (by simp)
  have mB := n15
  refine ew_putF (M := mX9_init) dX9_init_58 fX9_27 rfl rfl h0 (by exact Nat.le_of_ble_eq_true rfl) ⟨rfl, rfl, fun _ h => by cases h⟩ ?_
  obtain ⟨G16, e16, l16, n16, c16⟩ := ex_putc l15 h0 (ob 9 [.ref 1, .ref 3, .ref 9, .ref 22, .null, .null, .null, .null, .null, .int 0])
  refine ew_heap e16 ?_
  have mA := c16.at mA (by simp <;> omega)
  have mB := c16.at mB (by simp <;> omega)
  have h0 := n16
  refine ew_aload_n (M := mX9_init) dX9_init_61 rfl (Or.inr (Or.inl ⟨_, rfl⟩)) ?_
  refine ew_new (M := mX9_init) dX9_init_62 nX9_31 (by decide) (by decide) ?_
  obtain ⟨G17, e17, l17, n17, c17⟩ := ex_push l16 (ob 3 [.int 0, .int 0, .null])
  refine ew_heap e17 ?_
  rw [l16]
  have l17 : G17.length = 24 := l17
  have h0 := c17.at h0 (by simp)
  have mA := c17.at mA (by simp)
  have mB := c17.at mB (by simp)
  have m5 := n17
  refine ew_dup (M := mX9_init) dX9_init_65 rfl ?_
  refine ew_callI (M := mX9_init) dX9_init_66 vX9_33 (sp_History m5 l17) rfl (Nat.le_of_ble_eq_true rfl) ⟨by decide, by decide⟩ rfl (fun G18 r18 q18 => ?_)
  obtain ⟨rfl, c18, l18, p5⟩ := q18
  have l18 : G18.length = 73 := l18
  have h0 := c18.at h0 (by simp <;> omega)
  have mA := c18.at mA (by simp <;> omega)
  have mB := c18.at mB (by simp <;> omega)
  refine ew_putF (M := mX9_init) dX9_init_69 fX9_34 rfl rfl h0 (by exact Nat.le_of_ble_eq_true rfl) ⟨rfl, rfl, fun _ h => by cases h⟩ ?_
  obtain ⟨G19, e19, l19, n19, c19⟩ := ex_putc l18 h0 (ob 9 [.ref 1, .ref 3, .ref 9, .ref 22, .ref 23, .null, .null, .null, .null, .int 0])
  refine ew_heap e19 ?_
  have mA := c19.at mA (by simp <;> omega)
  have mB := c19.at mB (by simp <;> omega)
  have h0 := n19
  refine ew_aload_n (M := mX9_init) dX9_init_72 rfl (Or.inr (Or.inl ⟨_, rfl⟩)) ?_
  refine ew_new (M := mX9_init) dX9_init_73 nX9_38 (by decide) (by decide) ?_
  obtain ⟨G20, e20, l20, n20, c20⟩ := ex_push l19 (ob 0 [.int 0, .null, .null, .null])
  refine ew_heap e20 ?_
  rw [l19]
  have l20 : G20.length = 74 := l20
  have h0 := c20.at h0 (by simp)
  have mA := c20.at mA (by simp)
  have mB := c20.at mB (by simp)
  have m6 := n20
  refine ew_dup (M := mX9_init) dX9_init_76 rfl ?_
  refine ew_callI (M := mX9_init) dX9_init_77 vX9_40 (sp_Book m6 l20) rfl (Nat.le_of_ble_eq_true rfl) ⟨by decide, by decide⟩ rfl (fun G21 r21 q21 => ?_)
  obtain ⟨rfl, c21, l21, p6⟩ := q21
  have l21 : G21.length = 77 := l21
  have h0 := c21.at h0 (by simp <;> omega)
  have mA := c21.at mA (by simp <;> omega)
  have mB := c21.at mB (by simp <;> omega)
  refine ew_putF (M := mX9_init) dX9_init_80 fX9_41 rfl rfl h0 (by exact Nat.le_of_ble_eq_true rfl) ⟨rfl, rfl, fun _ h => by cases h⟩ ?_
  obtain ⟨G22, e22, l22, n22, c22⟩ := ex_putc l21 h0 (ob 9 [.ref 1, .ref 3, .ref 9, .ref 22, .ref 23, .ref 73, .null, .null, .null, .int 0])
  refine ew_heap e22 ?_
  have mA := c22.at mA (by simp <;> omega)
  have mB := c22.at mB (by simp <;> omega)
  have h0 := n22
  refine ew_aload_n (M := mX9_init) dX9_init_83 rfl (Or.inr (Or.inl ⟨_, rfl⟩)) ?_
  refine ew_new (M := mX9_init) dX9_init_84 nX9_45 (by decide) (by decide) ?_
  obtain ⟨G23, e23, l23, n23, c23⟩ := ex_push l22 (ob 8 [.int 0, .null, .null])
  refine ew_heap e23 ?_
  rw [l22]
  have l23 : G23.length = 78 := l23
  have h0 := c23.at h0 (by simp)
  have mA := c23.at mA (by simp)
  have mB := c23.at mB (by simp)
  have m7 := n23
  refine ew_dup (M := mX9_init) dX9_init_87 rfl ?_
  refine ew_callI (M := mX9_init) dX9_init_88 vX9_47 (sp_Window m7 l23) rfl (Nat.le_of_ble_eq_true rfl) ⟨by decide, by decide⟩ rfl (fun G24 r24 q24 => ?_)
  obtain ⟨rfl, c24, l24, p7⟩ := q24
  have l24 : G24.length = 80 := l24
  have h0 := c24.at h0 (by simp <;> omega)
  have mA := c24.at mA (by simp <;> omega)
  have mB := c24.at mB (by simp <;> omega)
  refine ew_putF (M := mX9_init) dX9_init_91 fX9_48 rfl rfl h0 (by exact Nat.le_of_ble_eq_true rfl) ⟨rfl, rfl, fun _ h => by cases h⟩ ?_
  obtain ⟨G25, e25, l25, n25, c25⟩ := ex_putc l24 h0 (ob 9 [.ref 1, .ref 3, .ref 9, .ref 22, .ref 23, .ref 73, .ref 77, .null, .null, .int 0])
  refine ew_heap e25 ?_
  have mA := c25.at mA (by simp <;> omega)
  have mB := c25.at mB (by simp <;> omega)
  have h0 := n25
  refine ew_aload_n (M := mX9_init) dX9_init_94 rfl (Or.inr (Or.inl ⟨_, rfl⟩)) ?_
  refine ew_new (M := mX9_init) dX9_init_95 nX9_52 (by decide) (by decide) ?_
  obtain ⟨G26, e26, l26, n26, c26⟩ := ex_push l25 (ob 4 [.int 0, .int 0, .null, .null])
  refine ew_heap e26 ?_
  rw [l25]
  have l26 : G26.length = 81 := l26
  have h0 := c26.at h0 (by simp)
  have mA := c26.at mA (by simp)
  have mB := c26.at mB (by simp)
  have m8 := n26
  refine ew_dup (M := mX9_init) dX9_init_98 rfl ?_
  refine ew_callI (M := mX9_init) dX9_init_99 vX9_54 (sp_Pic (a := 80) m8 l26) rfl (Nat.le_of_ble_eq_true rfl) ⟨by decide, by decide⟩ rfl (fun G27 r27 q27 => ?_)
  obtain ⟨rfl, c27, l27, p8⟩ := q27
  have l27 : G27.length = 83 := l27
  have h0 := c27.at h0 (by simp <;> omega)
  have mA := c27.at mA (by simp <;> omega)
  have mB := c27.at mB (by simp <;> omega)
  refine ew_putF (M := mX9_init) dX9_init_102 fX9_55 rfl rfl h0 (by exact Nat.le_of_ble_eq_true rfl) ⟨rfl, rfl, fun _ h => by cases h⟩ ?_
  obtain ⟨G28, e28, l28, n28, c28⟩ := ex_putc l27 h0 (ob 9 [.ref 1, .ref 3, .ref 9, .ref 22, .ref 23, .ref 73, .ref 77, .ref 80, .null, .int 0])
  refine ew_heap e28 ?_
  have mA := c28.at mA (by simp <;> omega)
  have mB := c28.at mB (by simp <;> omega)
  have h0 := n28
  refine ew_aload_n (M := mX9_init) dX9_init_105 rfl (Or.inr (Or.inl ⟨_, rfl⟩)) ?_
  refine ew_new (M := mX9_init) dX9_init_106 nX9_52 (by decide) (by decide) ?_
  obtain ⟨G29, e29, l29, n29, c29⟩ := ex_push l28 (ob 4 [.int 0, .int 0, .null, .null])
  refine ew_heap e29 ?_
  rw [l28]
  have l29 : G29.length = 84 := l29
  have h0 := c29.at h0 (by simp)
  have mA := c29.at mA (by simp)
  have mB := c29.at mB (by simp)
  have m9 := n29
  refine ew_dup (M := mX9_init) dX9_init_109 rfl ?_
  refine ew_callI (M := mX9_init) dX9_init_110 vX9_54 (sp_Pic (a := 83) m9 l29) rfl (Nat.le_of_ble_eq_true rfl) ⟨by decide, by decide⟩ rfl (fun G30 r30 q30 => ?_)
  obtain ⟨rfl, c30, l30, p9⟩ := q30
  have l30 : G30.length = 86 := l30
  have h0 := c30.at h0 (by simp <;> omega)
  have mA := c30.at mA (by simp <;> omega)
  have mB := c30.at mB (by simp <;> omega)
  refine ew_putF (M := mX9_init) dX9_init_113 fX9_59 rfl rfl h0 (by exact Nat.le_of_ble_eq_true rfl) ⟨rfl, rfl, fun _ h => by cases h⟩ ?_
  obtain ⟨G31, e31, l31, n31, c31⟩ := ex_putc l30 h0 (ob 9 [.ref 1, .ref 3, .ref 9, .ref 22, .ref 23, .ref 73, .ref 77, .ref 80, .ref 83, .int 0])
  refine ew_heap e31 ?_
  have mA := c31.at mA (by simp <;> omega)
  have mB := c31.at mB (by simp <;> omega)
  have h0 := n31
  refine ew_aload_n (M := mX9_init) dX9_init_116 rfl (Or.inr (Or.inl ⟨_, rfl⟩)) ?_
  refine ew_iconst (M := mX9_init) dX9_init_117 (v := (-1)) (by decide) ?_
  refine ew_put (M := mX9_init) dX9_init_118 fX9_62 h0 (by exact Nat.le_of_ble_eq_true rfl) ⟨rfl, rfl, fun _ h => by cases h⟩ ?_
  obtain ⟨G32, e32, l32, n32, c32⟩ := ex_putc l31 h0 (ob 9 [.ref 1, .ref 3, .ref 9, .ref 22, .ref 23, .ref 73, .ref 77, .ref 80, .ref 83, .int (-1)])
  refine ew_heap e32 ?_
  have mA := c32.at mA (by simp <;> omega)
  have mB := c32.at mB (by simp <;> omega)
  have h0 := n32
  refine ew_vret (M := mX9_init) dX9_init_121 rfl (by decide) (by decide) ?_
  have b32 : ex_ch G32 G32 [0, 9] := ex_ch.rf
  have b31 : ex_ch G31 G32 [0, 9] := (ex_ch.sub (L := [0, 9]) c32 (by simp <;> omega)).tr b32 (by simp)
  have b30 : ex_ch G30 G32 [0, 9] := (ex_ch.sub (L := [0, 9]) c31 (by simp <;> omega)).tr b31 (by simp)
  have b28 : ex_ch G28 G32 [0, 9] := ((ex_ch.sub (L := [0, 9]) c29 (by simp)).tr c30 (by simp <;> omega)).tr b30 (by simp)
  have b27 : ex_ch G27 G32 [0, 9] := (ex_ch.sub (L := [0, 9]) c28 (by simp <;> omega)).tr b28 (by simp)
  have b25 : ex_ch G25 G32 [0, 9] := ((ex_ch.sub (L := [0, 9]) c26 (by simp)).tr c27 (by simp <;> omega)).tr b27 (by simp)
  have b24 : ex_ch G24 G32 [0, 9] := (ex_ch.sub (L := [0, 9]) c25 (by simp <;> omega)).tr b25 (by simp)
  have b22 : ex_ch G22 G32 [0, 9] := ((ex_ch.sub (L := [0, 9]) c23 (by simp)).tr c24 (by simp <;> omega)).tr b24 (by simp)
  have b21 : ex_ch G21 G32 [0, 9] := (ex_ch.sub (L := [0, 9]) c22 (by simp <;> omega)).tr b22 (by simp)
  have b19 : ex_ch G19 G32 [0, 9] := ((ex_ch.sub (L := [0, 9]) c20 (by simp)).tr c21 (by simp <;> omega)).tr b21 (by simp)
  have b18 : ex_ch G18 G32 [0, 9] := (ex_ch.sub (L := [0, 9]) c19 (by simp <;> omega)).tr b19 (by simp)
  have b16 : ex_ch G16 G32 [0, 9] := ((ex_ch.sub (L := [0, 9]) c17 (by simp)).tr c18 (by simp <;> omega)).tr b18 (by simp)
  have b15 : ex_ch G15 G32 [0, 9] := (ex_ch.sub (L := [0, 9]) c16 (by simp <;> omega)).tr b16 (by simp)
  have b14 : ex_ch G14 G32 [0, 9] := (ex_ch.sub (L := [0, 9]) c15 (by simp <;> omega)).tr b15 (by simp)
  have b13 : ex_ch G13 G32 [0, 9] := (ex_ch.sub (L := [0, 9]) c14 (by simp <;> omega)).tr b14 (by simp)
  have b12 : ex_ch G12 G32 [0, 9] := (ex_ch.sub (L := [0, 9]) c13 (by simp <;> omega)).tr b13 (by simp)
  have b10 : ex_ch G10 G32 [0, 9] := ((ex_ch.sub (L := [0, 9]) c11 (by simp)).tr c12 (by simp <;> omega)).tr b12 (by simp)
  have b9 : ex_ch G9 G32 [0, 9] := (ex_ch.sub (L := [0, 9]) c10 (by simp <;> omega)).tr b10 (by simp)
  have b7 : ex_ch G7 G32 [0, 9] := ((ex_ch.sub (L := [0, 9]) c8 (by simp)).tr c9 (by simp <;> omega)).tr b9 (by simp)
  have b6 : ex_ch G6 G32 [0, 9] := (ex_ch.sub (L := [0, 9]) c7 (by simp <;> omega)).tr b7 (by simp)
  have b5 : ex_ch G5 G32 [0, 9] := (ex_ch.sub (L := [0, 9]) c6 (by simp <;> omega)).tr b6 (by simp)
  have b3 : ex_ch G3 G32 [0, 9] := ((ex_ch.sub (L := [0, 9]) c4 (by simp)).tr c5 (by simp <;> omega)).tr b5 (by simp)
  have b2 : ex_ch G2 G32 [0, 9] := (ex_ch.sub (L := [0, 9]) c3 (by simp <;> omega)).tr b3 (by simp)
  have b0 : ex_ch H G32 [0, 9] := ((ex_ch.sub (L := [0, 9]) c1 (by simp)).tr c2 (by simp <;> omega)).tr b2 (by simp)
  exact ⟨rfl, (((((((((((((((((((((((((((((((((ex_ch.rf (H := H) (L := [0])).tr c1 (by simp <;> omega)).tr c2 (by simp <;> omega)).tr c3 (by simp <;> omega)).tr c4 (by simp <;> omega)).tr c5 (by simp <;> omega)).tr c6 (by simp <;> omega)).tr c7 (by simp <;> omega)).tr c8 (by simp <;> omega)).tr c9 (by simp <;> omega)).tr c10 (by simp <;> omega)).tr c11 (by simp <;> omega)).tr c12 (by simp <;> omega)).tr c13 (by simp <;> omega)).tr c14 (by simp <;> omega)).tr c15 (by simp <;> omega)).tr c16 (by simp <;> omega)).tr c17 (by simp <;> omega)).tr c18 (by simp <;> omega)).tr c19 (by simp <;> omega)).tr c20 (by simp <;> omega)).tr c21 (by simp <;> omega)).tr c22 (by simp <;> omega)).tr c23 (by simp <;> omega)).tr c24 (by simp <;> omega)).tr c25 (by simp <;> omega)).tr c26 (by simp <;> omega)).tr c27 (by simp <;> omega)).tr c28 (by simp <;> omega)).tr c29 (by simp <;> omega)).tr c30 (by simp <;> omega)).tr c31 (by simp <;> omega)).tr c32 (by simp <;> omega)), l32, h0, ⟨nI 0, p1.ch b2 (by simp <;> omega) (by simp <;> omega)⟩, p2.ch b5 (by simp <;> (intros; omega)) (by simp <;> (intros; omega)), ⟨_, mA, rfl, rfl⟩, p3.ch b9 (by simp <;> (intros; omega)) (by simp <;> (intros; omega)), p4.ch b12 (by simp <;> (intros; omega)) (by simp <;> (intros; omega)), ⟨_, mB, fun i hi => ⟨nI_0.symm, by show 0 < 2; decide⟩⟩, p5.ch b18 (by simp <;> (intros; omega)), p6.ch b21 (by simp <;> (intros; omega)), ⟨_, p7.ch b24 (by simp <;> omega) (by simp <;> omega) (by simp <;> omega)⟩, (p8.any).ch b27 (by simp <;> omega) (by simp <;> omega) (by simp <;> omega), (p9.any).ch b30 (by simp <;> omega) (by simp <;> omega) (by simp <;> omega)⟩
theorem ms_init {d : Nat} {H : ex_H} (h0 : H[86]? = some (ob 10 [.null, .int 0, .int 0, .int 0, .null, .int 0, .int 0, .null, .int 0, .null, .null, .null, .null, .null, .null, .int 0, .int 0, .int 0, .int 0, .int 0, .null, .int 0, .null])) (hl : H.length = 87) : ex_Met mX10_init (d + 1) 11 2073 H [.ref 86] (fun H' r => r = none ∧ ex_ch H H' [86] ∧ H'.length = 98 ∧ mo_is H' S0) := by
  refine ex_meth [(0, .ref 86)] rfl rfl rfl (fun b => Nat.le_of_ble_eq_true rfl) ?_
  refine ew_aload_n (M := mX10_init) dX10_init_0 rfl (Or.inr (Or.inl ⟨_, rfl⟩)) ?_
  refine ew_objInit (M := mX10_init) dX10_init_1 oX10_1 oi_inst oi_code (by omega) rfl ?_
  refine ew_aload_n (M := mX10_init) dX10_init_4 rfl (Or.inr (Or.inl ⟨_, rfl⟩)) ?_
  refine ew_sipush (M := mX10_init) dX10_init_5 (v := nI 1558) (by decide) ?_
  refine ew_newa (M := mX10_init) (ty := .int) (N := 1558) (t0 := 0) dX10_init_8 rfl ac_int (fun _ => rfl) (fun _ h => by cases h) rfl (by decide) (by decide) (by decide) (by decide) (by decide) ?_
  obtain ⟨G1, e1, l1, n1, c1⟩ := ex_push hl (ar .int 1558 (fun _ => 0))
  refine ew_heap e1 ?_
  rw [hl]
  have l1 : G1.length = 88 := l1
  have h0 := c1.at h0 (by simp)
  have m0 := n1
  refine ew_putF (M := mX10_init) dX10_init_10 fX10_7 rfl rfl h0 (by exact Nat.le_of_ble_eq_true rfl) ⟨rfl, rfl, fun _ h => by cases h⟩ ?_
  obtain ⟨G2, e2, l2, n2, c2⟩ := ex_putc l1 h0 (ob 10 [.ref 87, .int 0, .int 0, .int 0, .null, .int 0, .int 0, .null, .int 0, .null, .null, .null, .null, .null, .null, .int 0, .int 0, .int 0, .int 0, .int 0, .null, .int 0, .null])
  refine ew_heap e2 ?_
  have m0 := c2.at m0 (by simp <;> omega)
  have h0 := n2
  refine ew_aload_n (M := mX10_init) dX10_init_13 rfl (Or.inr (Or.inl ⟨_, rfl⟩)) ?_
  refine ew_sipush (M := mX10_init) dX10_init_14 (v := nI 180) (by decide) ?_
  refine ew_newa (M := mX10_init) (ty := .int) (N := 180) (t0 := 0) dX10_init_17 rfl ac_int (fun _ => rfl) (fun _ h => by cases h) rfl (by decide) (by decide) (by decide) (by decide) (by decide) ?_
  obtain ⟨G3, e3, l3, n3, c3⟩ := ex_push l2 (ar .int 180 (fun _ => 0))
  refine ew_heap e3 ?_
  rw [l2]
  have l3 : G3.length = 89 := l3
  have h0 := c3.at h0 (by simp)
  have m0 := c3.at m0 (by simp)
  have m1 := n3
  refine ew_putF (M := mX10_init) dX10_init_19 fX10_13 rfl rfl h0 (by exact Nat.le_of_ble_eq_true rfl) ⟨rfl, rfl, fun _ h => by cases h⟩ ?_
  obtain ⟨G4, e4, l4, n4, c4⟩ := ex_putc l3 h0 (ob 10 [.ref 87, .int 0, .int 0, .int 0, .ref 88, .int 0, .int 0, .null, .int 0, .null, .null, .null, .null, .null, .null, .int 0, .int 0, .int 0, .int 0, .int 0, .null, .int 0, .null])
  refine ew_heap e4 ?_
  have m0 := c4.at m0 (by simp <;> omega)
  have m1 := c4.at m1 (by simp <;> omega)
  have h0 := n4
  refine ew_aload_n (M := mX10_init) dX10_init_22 rfl (Or.inr (Or.inl ⟨_, rfl⟩)) ?_
  refine ew_iconst (M := mX10_init) dX10_init_23 (v := (-1)) (by decide) ?_
  refine ew_put (M := mX10_init) dX10_init_24 fX10_16 h0 (by exact Nat.le_of_ble_eq_true rfl) ⟨rfl, rfl, fun _ h => by cases h⟩ ?_
  obtain ⟨G5, e5, l5, n5, c5⟩ := ex_putc l4 h0 (ob 10 [.ref 87, .int 0, .int 0, .int 0, .ref 88, .int 0, .int (-1), .null, .int 0, .null, .null, .null, .null, .null, .null, .int 0, .int 0, .int 0, .int 0, .int 0, .null, .int 0, .null])
  refine ew_heap e5 ?_
  have m0 := c5.at m0 (by simp <;> omega)
  have m1 := c5.at m1 (by simp <;> omega)
  have h0 := n5
  refine ew_aload_n (M := mX10_init) dX10_init_27 rfl (Or.inr (Or.inl ⟨_, rfl⟩)) ?_
  refine ew_bipush (M := mX10_init) dX10_init_28 (v := nI 31) (by decide) ?_
  refine ew_newa (M := mX10_init) (ty := .int) (N := 31) (t0 := 0) dX10_init_30 rfl ac_int (fun _ => rfl) (fun _ h => by cases h) rfl (by decide) (by decide) (by decide) (by decide) (by decide) ?_
  obtain ⟨G6, e6, l6, n6, c6⟩ := ex_push l5 (ar .int 31 (fun _ => 0))
  refine ew_heap e6 ?_
  rw [l5]
  have l6 : G6.length = 90 := l6
  have h0 := c6.at h0 (by simp)
  have m0 := c6.at m0 (by simp)
  have m1 := c6.at m1 (by simp)
  have m2 := n6
  refine ew_putF (M := mX10_init) dX10_init_32 fX10_20 rfl rfl h0 (by exact Nat.le_of_ble_eq_true rfl) ⟨rfl, rfl, fun _ h => by cases h⟩ ?_
  obtain ⟨G7, e7, l7, n7, c7⟩ := ex_putc l6 h0 (ob 10 [.ref 87, .int 0, .int 0, .int 0, .ref 88, .int 0, .int (-1), .ref 89, .int 0, .null, .null, .null, .null, .null, .null, .int 0, .int 0, .int 0, .int 0, .int 0, .null, .int 0, .null])
  refine ew_heap e7 ?_
  have m0 := c7.at m0 (by simp <;> omega)
  have m1 := c7.at m1 (by simp <;> omega)
  have m2 := c7.at m2 (by simp <;> omega)
  have h0 := n7
  refine ew_aload_n (M := mX10_init) dX10_init_35 rfl (Or.inr (Or.inl ⟨_, rfl⟩)) ?_
  refine ew_bipush (M := mX10_init) dX10_init_36 (v := nI 62) (by decide) ?_
  refine ew_newa (M := mX10_init) (ty := .int) (N := 62) (t0 := 0) dX10_init_38 rfl ac_int (fun _ => rfl) (fun _ h => by cases h) rfl (by decide) (by decide) (by decide) (by decide) (by decide) ?_
  obtain ⟨G8, e8, l8, n8, c8⟩ := ex_push l7 (ar .int 62 (fun _ => 0))
  refine ew_heap e8 ?_
  rw [l7]
  have l8 : G8.length = 91 := l8
  have h0 := c8.at h0 (by simp)
  have m0 := c8.at m0 (by simp)
  have m1 := c8.at m1 (by simp)
  have m2 := c8.at m2 (by simp)
  have m3 := n8
  refine ew_putF (M := mX10_init) dX10_init_40 fX10_23 rfl rfl h0 (by exact Nat.le_of_ble_eq_true rfl) ⟨rfl, rfl, fun _ h => by cases h⟩ ?_
  obtain ⟨G9, e9, l9, n9, c9⟩ := ex_putc l8 h0 (ob 10 [.ref 87, .int 0, .int 0, .int 0, .ref 88, .int 0, .int (-1), .ref 89, .int 0, .ref 90, .null, .null, .null, .null, .null, .int 0, .int 0, .int 0, .int 0, .int 0, .null, .int 0, .null])
  refine ew_heap e9 ?_
  have m0 := c9.at m0 (by simp <;> omega)
  have m1 := c9.at m1 (by simp <;> omega)
  have m2 := c9.at m2 (by simp <;> omega)
  have m3 := c9.at m3 (by simp <;> omega)
  have h0 := n9
  refine ew_aload_n (M := mX10_init) dX10_init_43 rfl (Or.inr (Or.inl ⟨_, rfl⟩)) ?_
  refine ew_iconst (M := mX10_init) dX10_init_44 (v := nI 2) (by decide) ?_
  refine ew_newa (M := mX10_init) (ty := .int) (N := 2) (t0 := 0) dX10_init_45 rfl ac_int (fun _ => rfl) (fun _ h => by cases h) rfl (by decide) (by decide) (by decide) (by decide) (by decide) ?_
  obtain ⟨G10, e10, l10, n10, c10⟩ := ex_push l9 (ar .int 2 (fun _ => 0))
  refine ew_heap e10 ?_
  rw [l9]
  have l10 : G10.length = 92 := l10
  have h0 := c10.at h0 (by simp)
  have m0 := c10.at m0 (by simp)
  have m1 := c10.at m1 (by simp)
  have m2 := c10.at m2 (by simp)
  have m3 := c10.at m3 (by simp)
  have m4 := n10
  refine ew_putF (M := mX10_init) dX10_init_47 fX10_26 rfl rfl h0 (by exact Nat.le_of_ble_eq_true rfl) ⟨rfl, rfl, fun _ h => by cases h⟩ ?_
  obtain ⟨G11, e11, l11, n11, c11⟩ := ex_putc l10 h0 (ob 10 [.ref 87, .int 0, .int 0, .int 0, .ref 88, .int 0, .int (-1), .ref 89, .int 0, .ref 90, .ref 91, .null, .null, .null, .null, .int 0, .int 0, .int 0, .int 0, .int 0, .null, .int 0, .null])
  refine ew_heap e11 ?_
  have m0 := c11.at m0 (by simp <;> omega)
  have m1 := c11.at m1 (by simp <;> omega)
  have m2 := c11.at m2 (by simp <;> omega)
  have m3 := c11.at m3 (by simp <;> omega)
  have m4 := c11.at m4 (by simp <;> omega)
  have h0 := n11
  refine ew_aload_n (M := mX10_init) dX10_init_50 rfl (Or.inr (Or.inl ⟨_, rfl⟩)) ?_
  refine ew_iconst (M := mX10_init) dX10_init_51 (v := nI 2) (by decide) ?_
  refine ew_newa (M := mX10_init) (ty := .int) (N := 2) (t0 := 0) dX10_init_52 rfl ac_int (fun _ => rfl) (fun _ h => by cases h) rfl (by decide) (by decide) (by decide) (by decide) (by decide) ?_
  obtain ⟨G12, e12, l12, n12, c12⟩ := ex_push l11 (ar .int 2 (fun _ => 0))
  refine ew_heap e12 ?_
  rw [l11]
  have l12 : G12.length = 93 := l12
  have h0 := c12.at h0 (by simp)
  have m0 := c12.at m0 (by simp)
  have m1 := c12.at m1 (by simp)
  have m2 := c12.at m2 (by simp)
  have m3 := c12.at m3 (by simp)
  have m4 := c12.at m4 (by simp)
  have m5 := n12
  refine ew_putF (M := mX10_init) dX10_init_54 fX10_29 rfl rfl h0 (by exact Nat.le_of_ble_eq_true rfl) ⟨rfl, rfl, fun _ h => by cases h⟩ ?_
  obtain ⟨G13, e13, l13, n13, c13⟩ := ex_putc l12 h0 (ob 10 [.ref 87, .int 0, .int 0, .int 0, .ref 88, .int 0, .int (-1), .ref 89, .int 0, .ref 90, .ref 91, .ref 92, .null, .null, .null, .int 0, .int 0, .int 0, .int 0, .int 0, .null, .int 0, .null])
  refine ew_heap e13 ?_
  have m0 := c13.at m0 (by simp <;> omega)
  have m1 := c13.at m1 (by simp <;> omega)
  have m2 := c13.at m2 (by simp <;> omega)
  have m3 := c13.at m3 (by simp <;> omega)
  have m4 := c13.at m4 (by simp <;> omega)
  have m5 := c13.at m5 (by simp <;> omega)
  have h0 := n13
  refine ew_aload_n (M := mX10_init) dX10_init_57 rfl (Or.inr (Or.inl ⟨_, rfl⟩)) ?_
  refine ew_bipush (M := mX10_init) dX10_init_58 (v := nI 20) (by decide) ?_
  refine ew_newa (M := mX10_init) (ty := .int) (N := 20) (t0 := 0) dX10_init_60 rfl ac_int (fun _ => rfl) (fun _ h => by cases h) rfl (by decide) (by decide) (by decide) (by decide) (by decide) ?_
  obtain ⟨G14, e14, l14, n14, c14⟩ := ex_push l13 (ar .int 20 (fun _ => 0))
  refine ew_heap e14 ?_
  rw [l13]
  have l14 : G14.length = 94 := l14
  have h0 := c14.at h0 (by simp)
  have m0 := c14.at m0 (by simp)
  have m1 := c14.at m1 (by simp)
  have m2 := c14.at m2 (by simp)
  have m3 := c14.at m3 (by simp)
  have m4 := c14.at m4 (by simp)
  have m5 := c14.at m5 (by simp)
  have m6 := n14
  refine ew_putF (M := mX10_init) dX10_init_62 fX10_32 rfl rfl h0 (by exact Nat.le_of_ble_eq_true rfl) ⟨rfl, rfl, fun _ h => by cases h⟩ ?_
  obtain ⟨G15, e15, l15, n15, c15⟩ := ex_putc l14 h0 (ob 10 [.ref 87, .int 0, .int 0, .int 0, .ref 88, .int 0, .int (-1), .ref 89, .int 0, .ref 90, .ref 91, .ref 92, .ref 93, .null, .null, .int 0, .int 0, .int 0, .int 0, .int 0, .null, .int 0, .null])
  refine ew_heap e15 ?_
  have m0 := c15.at m0 (by simp <;> omega)
  have m1 := c15.at m1 (by simp <;> omega)
  have m2 := c15.at m2 (by simp <;> omega)
  have m3 := c15.at m3 (by simp <;> omega)
  have m4 := c15.at m4 (by simp <;> omega)
  have m5 := c15.at m5 (by simp <;> omega)
  have m6 := c15.at m6 (by simp <;> omega)
  have h0 := n15
  refine ew_aload_n (M := mX10_init) dX10_init_65 rfl (Or.inr (Or.inl ⟨_, rfl⟩)) ?_
  refine ew_bipush (M := mX10_init) dX10_init_66 (v := nI 20) (by decide) ?_
  refine ew_newa (M := mX10_init) (ty := .int) (N := 20) (t0 := 0) dX10_init_68 rfl ac_int (fun _ => rfl) (fun _ h => by cases h) rfl (by decide) (by decide) (by decide) (by decide) (by decide) ?_
  obtain ⟨G16, e16, l16, n16, c16⟩ := ex_push l15 (ar .int 20 (fun _ => 0))
  refine ew_heap e16 ?_
  rw [l15]
  have l16 : G16.length = 95 := l16
  have h0 := c16.at h0 (by simp)
  have m0 := c16.at m0 (by simp)
  have m1 := c16.at m1 (by simp)
  have m2 := c16.at m2 (by simp)
  have m3 := c16.at m3 (by simp)
  have m4 := c16.at m4 (by simp)
  have m5 := c16.at m5 (by simp)
  have m6 := c16.at m6 (by simp)
  have m7 := n16
  refine ew_putF (M := mX10_init) dX10_init_70 fX10_35 rfl rfl h0 (by exact Nat.le_of_ble_eq_true rfl) ⟨rfl, rfl, fun _ h => by cases h⟩ ?_
  obtain ⟨G17, e17, l17, n17, c17⟩ := ex_putc l16 h0 (ob 10 [.ref 87, .int 0, .int 0, .int 0, .ref 88, .int 0, .int (-1), .ref 89, .int 0, .ref 90, .ref 91, .ref 92, .ref 93, .ref 94, .null, .int 0, .int 0, .int 0, .int 0, .int 0, .null, .int 0, .null])
  refine ew_heap e17 ?_
  have m0 := c17.at m0 (by simp <;> omega)
  have m1 := c17.at m1 (by simp <;> omega)
  have m2 := c17.at m2 (by simp <;> omega)
  have m3 := c17.at m3 (by simp <;> omega)
  have m4 := c17.at m4 (by simp <;> omega)
  have m5 := c17.at m5 (by simp <;> omega)
  have m6 := c17.at m6 (by simp <;> omega)
  have m7 := c17.at m7 (by simp <;> omega)
  have h0 := n17
  refine ew_aload_n (M := mX10_init) dX10_init_73 rfl (Or.inr (Or.inl ⟨_, rfl⟩)) ?_
  refine ew_bipush (M := mX10_init) dX10_init_74 (v := nI 20) (by decide) ?_
  refine ew_newa (M := mX10_init) (ty := .int) (N := 20) (t0 := 0) dX10_init_76 rfl ac_int (fun _ => rfl) (fun _ h => by cases h) rfl (by decide) (by decide) (by decide) (by decide) (by decide) ?_
  obtain ⟨G18, e18, l18, n18, c18⟩ := ex_push l17 (ar .int 20 (fun _ => 0))
  refine ew_heap e18 ?_
  rw [l17]
  have l18 : G18.length = 96 := l18
  have h0 := c18.at h0 (by simp)
  have m0 := c18.at m0 (by simp)
  have m1 := c18.at m1 (by simp)
  have m2 := c18.at m2 (by simp)
  have m3 := c18.at m3 (by simp)
  have m4 := c18.at m4 (by simp)
  have m5 := c18.at m5 (by simp)
  have m6 := c18.at m6 (by simp)
  have m7 := c18.at m7 (by simp)
  have m8 := n18
  refine ew_putF (M := mX10_init) dX10_init_78 fX10_38 rfl rfl h0 (by exact Nat.le_of_ble_eq_true rfl) ⟨rfl, rfl, fun _ h => by cases h⟩ ?_
  obtain ⟨G19, e19, l19, n19, c19⟩ := ex_putc l18 h0 (ob 10 [.ref 87, .int 0, .int 0, .int 0, .ref 88, .int 0, .int (-1), .ref 89, .int 0, .ref 90, .ref 91, .ref 92, .ref 93, .ref 94, .ref 95, .int 0, .int 0, .int 0, .int 0, .int 0, .null, .int 0, .null])
  refine ew_heap e19 ?_
  have m0 := c19.at m0 (by simp <;> omega)
  have m1 := c19.at m1 (by simp <;> omega)
  have m2 := c19.at m2 (by simp <;> omega)
  have m3 := c19.at m3 (by simp <;> omega)
  have m4 := c19.at m4 (by simp <;> omega)
  have m5 := c19.at m5 (by simp <;> omega)
  have m6 := c19.at m6 (by simp <;> omega)
  have m7 := c19.at m7 (by simp <;> omega)
  have m8 := c19.at m8 (by simp <;> omega)
  have h0 := n19
  refine ew_aload_n (M := mX10_init) dX10_init_81 rfl (Or.inr (Or.inl ⟨_, rfl⟩)) ?_
  refine ew_bipush (M := mX10_init) dX10_init_82 (v := nI 96) (by decide) ?_
  refine ew_newa (M := mX10_init) (ty := .int) (N := 96) (t0 := 0) dX10_init_84 rfl ac_int (fun _ => rfl) (fun _ h => by cases h) rfl (by decide) (by decide) (by decide) (by decide) (by decide) ?_
  obtain ⟨G20, e20, l20, n20, c20⟩ := ex_push l19 (ar .int 96 (fun _ => 0))
  refine ew_heap e20 ?_
  rw [l19]
  have l20 : G20.length = 97 := l20
  have h0 := c20.at h0 (by simp)
  have m0 := c20.at m0 (by simp)
  have m1 := c20.at m1 (by simp)
  have m2 := c20.at m2 (by simp)
  have m3 := c20.at m3 (by simp)
  have m4 := c20.at m4 (by simp)
  have m5 := c20.at m5 (by simp)
  have m6 := c20.at m6 (by simp)
  have m7 := c20.at m7 (by simp)
  have m8 := c20.at m8 (by simp)
  have m9 := n20
  refine ew_putF (M := mX10_init) dX10_init_86 fX10_41 rfl rfl h0 (by exact Nat.le_of_ble_eq_true rfl) ⟨rfl, rfl, fun _ h => by cases h⟩ ?_
  obtain ⟨G21, e21, l21, n21, c21⟩ := ex_putc l20 h0 (ob 10 [.ref 87, .int 0, .int 0, .int 0, .ref 88, .int 0, .int (-1), .ref 89, .int 0, .ref 90, .ref 91, .ref 92, .ref 93, .ref 94, .ref 95, .int 0, .int 0, .int 0, .int 0, .int 0, .ref 96, .int 0, .null])
  refine ew_heap e21 ?_
  have m0 := c21.at m0 (by simp <;> omega)
  have m1 := c21.at m1 (by simp <;> omega)
  have m2 := c21.at m2 (by simp <;> omega)
  have m3 := c21.at m3 (by simp <;> omega)
  have m4 := c21.at m4 (by simp <;> omega)
  have m5 := c21.at m5 (by simp <;> omega)
  have m6 := c21.at m6 (by simp <;> omega)
  have m7 := c21.at m7 (by simp <;> omega)
  have m8 := c21.at m8 (by simp <;> omega)
  have m9 := c21.at m9 (by simp <;> omega)
  have h0 := n21
  refine ew_aload_n (M := mX10_init) dX10_init_89 rfl (Or.inr (Or.inl ⟨_, rfl⟩)) ?_
  refine ew_bipush (M := mX10_init) dX10_init_90 (v := nI 82) (by decide) ?_
  refine ew_newa (M := mX10_init) (ty := .int) (N := 82) (t0 := 0) dX10_init_92 rfl ac_int (fun _ => rfl) (fun _ h => by cases h) rfl (by decide) (by decide) (by decide) (by decide) (by decide) ?_
  obtain ⟨G22, e22, l22, n22, c22⟩ := ex_push l21 (ar .int 82 (fun _ => 0))
  refine ew_heap e22 ?_
  rw [l21]
  have l22 : G22.length = 98 := l22
  have h0 := c22.at h0 (by simp)
  have m0 := c22.at m0 (by simp)
  have m1 := c22.at m1 (by simp)
  have m2 := c22.at m2 (by simp)
  have m3 := c22.at m3 (by simp)
  have m4 := c22.at m4 (by simp)
  have m5 := c22.at m5 (by simp)
  have m6 := c22.at m6 (by simp)
  have m7 := c22.at m7 (by simp)
  have m8 := c22.at m8 (by simp)
  have m9 := c22.at m9 (by simp)
  have m10 := n22
  refine ew_putF (M := mX10_init) dX10_init_94 fX10_44 rfl rfl h0 (by exact Nat.le_of_ble_eq_true rfl) ⟨rfl, rfl, fun _ h => by cases h⟩ ?_
  obtain ⟨G23, e23, l23, n23, c23⟩ := ex_putc l22 h0 (ob 10 [.ref 87, .int 0, .int 0, .int 0, .ref 88, .int 0, .int (-1), .ref 89, .int 0, .ref 90, .ref 91, .ref 92, .ref 93, .ref 94, .ref 95, .int 0, .int 0, .int 0, .int 0, .int 0, .ref 96, .int 0, .ref 97])
  refine ew_heap e23 ?_
  have m0 := c23.at m0 (by simp <;> omega)
  have m1 := c23.at m1 (by simp <;> omega)
  have m2 := c23.at m2 (by simp <;> omega)
  have m3 := c23.at m3 (by simp <;> omega)
  have m4 := c23.at m4 (by simp <;> omega)
  have m5 := c23.at m5 (by simp <;> omega)
  have m6 := c23.at m6 (by simp <;> omega)
  have m7 := c23.at m7 (by simp <;> omega)
  have m8 := c23.at m8 (by simp <;> omega)
  have m9 := c23.at m9 (by simp <;> omega)
  have m10 := c23.at m10 (by simp <;> omega)
  have h0 := n23
  refine ew_aload_n (M := mX10_init) dX10_init_97 rfl (Or.inr (Or.inl ⟨_, rfl⟩)) ?_
  refine ew_get (M := mX10_init) dX10_init_98 fX10_7 (by repeat (first | with_reducible assumption | refine ex_eq ?_ | refine ex_ne ?_ (by omega) | exact ex_lt (by with_reducible assumption) | rw [List.length_set] | assumption)) (by rfl) ?_
  refine ew_iconst (M := mX10_init) dX10_init_101 (v := nI 0) (by decide) ?_
  refine ew_iconst (M := mX10_init) dX10_init_102 (v := nI 1) (by decide) ?_
  refine ew_iast (M := mX10_init) 0 dX10_init_103 m0 ⟨rfl, by decide, by decide⟩ ?_
  refine ew_aload_n (M := mX10_init) dX10_init_104 rfl (Or.inr (Or.inl ⟨_, rfl⟩)) ?_
  refine ew_get (M := mX10_init) dX10_init_105 fX10_7 (by repeat (first | with_reducible assumption | refine ex_eq ?_ | refine ex_ne ?_ (by omega) | exact ex_lt (by with_reducible assumption) | rw [List.length_set] | assumption)) (by rfl) ?_
  refine ew_iconst (M := mX10_init) dX10_init_108 (v := nI 1) (by decide) ?_
  refine ew_iconst (M := mX10_init) dX10_init_109 (v := nI 1) (by decide) ?_
  refine ew_iast (M := mX10_init) 1 dX10_init_110 (ex_eq (ex_lt m0)) ⟨rfl, by decide, by decide⟩ ?_
  refine ew_vret (M := mX10_init) dX10_init_111 rfl (Nat.le_refl _) (Nat.le_refl _) ?_
  have hcA : ex_ch H G23 [86] := ((((((((((((((((((((((((ex_ch.rf (H := H) (L := [86])).tr c1 (by simp <;> omega)).tr c2 (by simp <;> omega)).tr c3 (by simp <;> omega)).tr c4 (by simp <;> omega)).tr c5 (by simp <;> omega)).tr c6 (by simp <;> omega)).tr c7 (by simp <;> omega)).tr c8 (by simp <;> omega)).tr c9 (by simp <;> omega)).tr c10 (by simp <;> omega)).tr c11 (by simp <;> omega)).tr c12 (by simp <;> omega)).tr c13 (by simp <;> omega)).tr c14 (by simp <;> omega)).tr c15 (by simp <;> omega)).tr c16 (by simp <;> omega)).tr c17 (by simp <;> omega)).tr c18 (by simp <;> omega)).tr c19 (by simp <;> omega)).tr c20 (by simp <;> omega)).tr c21 (by simp <;> omega)).tr c22 (by simp <;> omega)).tr c23 (by simp <;> omega))
  have hl87 : H.length ≤ 87 := by omega
  rw [show (0 : Int32) = nI 0 from nI_0.symm] at h0
  refine ⟨rfl, ⟨by rw [List.length_set, List.length_set]; exact hcA.1, fun k hk hn => ?_⟩, by rw [List.length_set, List.length_set]; exact l23, (nI 0, nI 0, nI 0, nI 0), nI 0, _, _, (by repeat (first | with_reducible assumption | refine ex_eq ?_ | refine ex_ne ?_ (by omega) | exact ex_lt (by with_reducible assumption) | rw [List.length_set] | assumption)), ⟨by decide, by decide, fun i hi => by show 0 < 2; decide⟩, ⟨upd (upd (fun _ => 0) 0 (nI 1)) 1 (nI 1), (by repeat (first | with_reducible assumption | refine ex_eq ?_ | refine ex_ne ?_ (by omega) | exact ex_lt (by with_reducible assumption) | rw [List.length_set] | assumption)), ⟨⟨⟨by decide, by decide, by decide, by decide⟩, fun k hk => ⟨by show 0 < 256; decide, by show 0 < 2; decide⟩⟩, rfl, rfl, fun i j hi hj => ?_⟩, ⟨Nat.zero_le _, fun k hk => absurd hk (Nat.not_lt_zero k)⟩, fun i hi hk => absurd (show (0 : Nat) = 1 from hk) (by decide)⟩, ⟨_, (by repeat (first | with_reducible assumption | refine ex_eq ?_ | refine ex_ne ?_ (by omega) | exact ex_lt (by with_reducible assumption) | rw [List.length_set] | assumption)), Nat.zero_le _, fun k hk => absurd hk (Nat.not_lt_zero k)⟩, ⟨_, (by repeat (first | with_reducible assumption | refine ex_eq ?_ | refine ex_ne ?_ (by omega) | exact ex_lt (by with_reducible assumption) | rw [List.length_set] | assumption)), Nat.zero_le _, nI_0.symm, fun k hk => absurd hk (Nat.not_lt_zero k)⟩, ⟨_, _, _, (by repeat (first | with_reducible assumption | refine ex_eq ?_ | refine ex_ne ?_ (by omega) | exact ex_lt (by with_reducible assumption) | rw [List.length_set] | assumption)), (by repeat (first | with_reducible assumption | refine ex_eq ?_ | refine ex_ne ?_ (by omega) | exact ex_lt (by with_reducible assumption) | rw [List.length_set] | assumption)), (by repeat (first | with_reducible assumption | refine ex_eq ?_ | refine ex_ne ?_ (by omega) | exact ex_lt (by with_reducible assumption) | rw [List.length_set] | assumption)), fun i hi hk => absurd (show (0 : Nat) = 1 from hk) (by decide)⟩, ⟨_, _, _, (by repeat (first | with_reducible assumption | refine ex_eq ?_ | refine ex_ne ?_ (by omega) | exact ex_lt (by with_reducible assumption) | rw [List.length_set] | assumption)), (by repeat (first | with_reducible assumption | refine ex_eq ?_ | refine ex_ne ?_ (by omega) | exact ex_lt (by with_reducible assumption) | rw [List.length_set] | assumption)), (by repeat (first | with_reducible assumption | refine ex_eq ?_ | refine ex_ne ?_ (by omega) | exact ex_lt (by with_reducible assumption) | rw [List.length_set] | assumption)), Nat.zero_le _, fun k hk => absurd hk (Nat.not_lt_zero k)⟩, (by repeat (first | with_reducible assumption | refine ex_eq ?_ | refine ex_ne ?_ (by omega) | exact ex_lt (by with_reducible assumption) | rw [List.length_set] | assumption)), (by repeat (first | with_reducible assumption | refine ex_eq ?_ | refine ex_ne ?_ (by omega) | exact ex_lt (by with_reducible assumption) | rw [List.length_set] | assumption))⟩
  · rw [List.getElem?_set_ne (by omega), List.getElem?_set_ne (by omega)]
    exact hcA.2 k hk hn
  · have hi : i < 1 := hi
    have hj : j < 1 := hj
    have e1 : i = 0 := by omega
    have e2 : j = 0 := by omega
    subst e1
    subst e2
    exact nI_0.symm
