theorem ex_push {H : ex_H} {n : Nat} (h : H.length = n) (c : ex_C) : ∃ G, H ++ [c] = G ∧ G.length = n + 1 ∧ G[n]? = some c ∧ ex_ch H G [] :=
  ⟨H ++ [c], rfl, by rw [List.length_append, h]; rfl, by rw [← h]; exact List.getElem?_concat_length, ex_ch.rf.app⟩
theorem ex_putc {H : ex_H} {k n : Nat} {c0 : ex_C} (h : H.length = n) (hk : H[k]? = some c0) (c : ex_C) : ∃ G, H.set k c = G ∧ G.length = n ∧ G[k]? = some c ∧ ex_ch H G [k] :=
  ⟨H.set k c, rfl, by rw [List.length_set, h], ex_eq (ex_lt hk), ex_ch.rf.set (by simp)⟩
theorem ew_heap {M : ex_M} {d mc ms : Nat} {post : ex_H → Option Value → Prop} {H G : ex_H} {pc : Nat} {ls : List (Nat × Value)} {st : List Value} {cells slots : Nat} (e : H = G) (k : ex_W M d mc ms post G pc ls st cells slots) : ex_W M d mc ms post H pc ls st cells slots := by
  rw [e]
  exact k
theorem ew_cs {M : ex_M} {d mc ms : Nat} {post : ex_H → Option Value → Prop} {H : ex_H} {pc : Nat} {ls : List (Nat × Value)} {st : List Value} {cells slots cells' slots' : Nat} (e : cells ≤ cells') (f : slots ≤ slots') (k : ex_W M d mc ms post H pc ls st cells' slots') : ex_W M d mc ms post H pc ls st cells slots := by
  intro p l en s m args below meth c D dA b X HH locs lsr hP hS hL
  exact W.widen e f (k p l en s m args below meth c D dA b X HH locs lsr hP hS hL)
theorem sp_Text {d : Nat} {H : ex_H} {a : Nat} (h0 : H[a]? = some (ob 7 [.int 0, .null, .int 0])) (hl : H.length = a + 1) : ex_Met mX7_init (d + 1) 1 180 H [.ref a] (fun H' r => r = none ∧ ex_ch H H' [a] ∧ H'.length = a + 2 ∧ tx_is H' a 0 (fun _ => 0) (nI 0)) := by
  refine ex_meth [(0, .ref a)] rfl rfl rfl (fun b => Nat.le_of_ble_eq_true rfl) ?_
  refine ew_aload_n (M := mX7_init) dX7_init_0 rfl (Or.inr (Or.inl ⟨_, rfl⟩)) ?_
  refine ew_objInit (M := mX7_init) dX7_init_1 oX7_3 oi_inst oi_code (by omega) rfl ?_
  refine ew_aload_n (M := mX7_init) dX7_init_4 rfl (Or.inr (Or.inl ⟨_, rfl⟩)) ?_
  refine ew_iconst (M := mX7_init) dX7_init_5 (v := nI 0) (by decide) ?_
  refine ew_put (M := mX7_init) dX7_init_6 fX7_9 h0 (by exact Nat.le_of_ble_eq_true rfl) ⟨rfl, rfl, fun _ h => by cases h⟩ ?_
  obtain ⟨G1, e1, l1, n1, c1⟩ := ex_putc hl h0 (ob 7 [.int (nI 0), .null, .int 0])
  refine ew_heap e1 ?_
  have h0 := n1
  refine ew_aload_n (M := mX7_init) dX7_init_9 rfl (Or.inr (Or.inl ⟨_, rfl⟩)) ?_
  refine ew_sipush (M := mX7_init) dX7_init_10 (v := nI 180) (by decide) ?_
  refine ew_newa (M := mX7_init) (ty := .int) (N := 180) (t0 := 0) dX7_init_13 rfl ac_int (fun _ => rfl) (fun _ h => by cases h) rfl (by decide) (by decide) (by decide) (by decide) (by decide) ?_
  obtain ⟨G2, e2, l2, n2, c2⟩ := ex_push l1 (ar .int 180 (fun _ => 0))
  refine ew_heap e2 ?_
  rw [l1]
  have l2 : G2.length = a + 2 := l2
  have h0 := c2.at h0 (by simp)
  have m1 := n2
  refine ew_putF (M := mX7_init) dX7_init_15 fX7_15 rfl rfl h0 (by exact Nat.le_of_ble_eq_true rfl) ⟨rfl, rfl, fun _ h => by cases h⟩ ?_
  obtain ⟨G3, e3, l3, n3, c3⟩ := ex_putc l2 h0 (ob 7 [.int (nI 0), .ref (a + 1), .int 0])
  refine ew_heap e3 ?_
  have m1 := c3.at m1 (by simp <;> omega)
  have h0 := n3
  refine ew_aload_n (M := mX7_init) dX7_init_18 rfl (Or.inr (Or.inl ⟨_, rfl⟩)) ?_
  refine ew_iconst (M := mX7_init) dX7_init_19 (v := nI 0) (by decide) ?_
  refine ew_put (M := mX7_init) dX7_init_20 fX7_19 h0 (by exact Nat.le_of_ble_eq_true rfl) ⟨rfl, rfl, fun _ h => by cases h⟩ ?_
  obtain ⟨G4, e4, l4, n4, c4⟩ := ex_putc l3 h0 (ob 7 [.int (nI 0), .ref (a + 1), .int (nI 0)])
  refine ew_heap e4 ?_
  have m1 := c4.at m1 (by simp <;> omega)
  have h0 := n4
  refine ew_vret (M := mX7_init) dX7_init_23 rfl (by decide) (by decide) ?_
  exact ⟨rfl, (((((ex_ch.rf (H := H) (L := [a])).tr c1 (by simp <;> omega)).tr c2 (by simp <;> omega)).tr c3 (by simp <;> omega)).tr c4 (by simp <;> omega)), l4, Nat.zero_le _, fun k hk => absurd hk (Nat.not_lt_zero k), h0, _, m1, fun k hk => absurd hk (Nat.not_lt_zero k)⟩
theorem sp_Pic {d : Nat} {H : ex_H} {a : Nat} (h0 : H[a]? = some (ob 4 [.int 0, .int 0, .null, .null])) (hl : H.length = a + 1) : ex_Met mX4_init (d + 1) 2 160 H [.ref a] (fun H' r => r = none ∧ ex_ch H H' [a] ∧ H'.length = a + 3 ∧ pis H' a (1, 1, fun _ => 0, fun _ => 0)) := by
  refine ex_meth [(0, .ref a)] rfl rfl rfl (fun b => Nat.le_of_ble_eq_true rfl) ?_
  refine ew_aload_n (M := mX4_init) dX4_init_0 rfl (Or.inr (Or.inl ⟨_, rfl⟩)) ?_
  refine ew_objInit (M := mX4_init) dX4_init_1 oX4_3 oi_inst oi_code (by omega) rfl ?_
  refine ew_aload_n (M := mX4_init) dX4_init_4 rfl (Or.inr (Or.inl ⟨_, rfl⟩)) ?_
  refine ew_iconst (M := mX4_init) dX4_init_5 (v := nI 1) (by decide) ?_
  refine ew_put (M := mX4_init) dX4_init_6 fX4_9 h0 (by exact Nat.le_of_ble_eq_true rfl) ⟨rfl, rfl, fun _ h => by cases h⟩ ?_
  obtain ⟨G1, e1, l1, n1, c1⟩ := ex_putc hl h0 (ob 4 [.int (nI 1), .int 0, .null, .null])
  refine ew_heap e1 ?_
  have h0 := n1
  refine ew_aload_n (M := mX4_init) dX4_init_9 rfl (Or.inr (Or.inl ⟨_, rfl⟩)) ?_
  refine ew_iconst (M := mX4_init) dX4_init_10 (v := nI 1) (by decide) ?_
  refine ew_put (M := mX4_init) dX4_init_11 fX4_15 h0 (by exact Nat.le_of_ble_eq_true rfl) ⟨rfl, rfl, fun _ h => by cases h⟩ ?_
  obtain ⟨G2, e2, l2, n2, c2⟩ := ex_putc l1 h0 (ob 4 [.int (nI 1), .int (nI 1), .null, .null])
  refine ew_heap e2 ?_
  have h0 := n2
  refine ew_aload_n (M := mX4_init) dX4_init_14 rfl (Or.inr (Or.inl ⟨_, rfl⟩)) ?_
  refine ew_bipush (M := mX4_init) dX4_init_15 (v := nI 80) (by decide) ?_
  refine ew_newa (M := mX4_init) (ty := .int) (N := 80) (t0 := 0) dX4_init_17 rfl ac_int (fun _ => rfl) (fun _ h => by cases h) rfl (by decide) (by decide) (by decide) (by decide) (by decide) ?_
  obtain ⟨G3, e3, l3, n3, c3⟩ := ex_push l2 (ar .int 80 (fun _ => 0))
  refine ew_heap e3 ?_
  rw [l2]
  have l3 : G3.length = a + 2 := l3
  have h0 := c3.at h0 (by simp)
  have m1 := n3
  refine ew_putF (M := mX4_init) dX4_init_19 fX4_18 rfl rfl h0 (by exact Nat.le_of_ble_eq_true rfl) ⟨rfl, rfl, fun _ h => by cases h⟩ ?_
  obtain ⟨G4, e4, l4, n4, c4⟩ := ex_putc l3 h0 (ob 4 [.int (nI 1), .int (nI 1), .ref (a + 1), .null])
  refine ew_heap e4 ?_
  have m1 := c4.at m1 (by simp <;> omega)
  have h0 := n4
  refine ew_aload_n (M := mX4_init) dX4_init_22 rfl (Or.inr (Or.inl ⟨_, rfl⟩)) ?_
  refine ew_bipush (M := mX4_init) dX4_init_23 (v := nI 80) (by decide) ?_
  refine ew_newa (M := mX4_init) (ty := .boolean) (N := 80) (t0 := 1) dX4_init_25 rfl ac_boolean (fun _ => rfl) (fun _ h => by cases h) rfl (by decide) (by decide) (by decide) (by decide) (by decide) ?_
  obtain ⟨G5, e5, l5, n5, c5⟩ := ex_push l4 (ar .boolean 80 (fun _ => 0))
  refine ew_heap e5 ?_
  rw [l4]
  have l5 : G5.length = a + 3 := l5
  have h0 := c5.at h0 (by simp)
  have m1 := c5.at m1 (by simp)
  have m2 := n5
  refine ew_putF (M := mX4_init) dX4_init_27 fX4_22 rfl rfl h0 (by exact Nat.le_of_ble_eq_true rfl) ⟨rfl, rfl, fun _ h => by cases h⟩ ?_
  obtain ⟨G6, e6, l6, n6, c6⟩ := ex_putc l5 h0 (ob 4 [.int (nI 1), .int (nI 1), .ref (a + 1), .ref (a + 2)])
  refine ew_heap e6 ?_
  have m1 := c6.at m1 (by simp <;> omega)
  have m2 := c6.at m2 (by simp <;> omega)
  have h0 := n6
  refine ew_vret (M := mX4_init) dX4_init_30 rfl (by decide) (by decide) ?_
  exact ⟨rfl, (((((((ex_ch.rf (H := H) (L := [a])).tr c1 (by simp <;> omega)).tr c2 (by simp <;> omega)).tr c3 (by simp <;> omega)).tr c4 (by simp <;> omega)).tr c5 (by simp <;> omega)).tr c6 (by simp <;> omega)), l6, ⟨⟨by decide, by decide, by decide, by decide⟩, fun k hk => ⟨by show 0 < 256; decide, by show 0 < 2; decide⟩⟩, _, _, ⟨h0, m1, m2⟩, fun k hk => ⟨rfl, rfl⟩⟩
theorem sp_Filters {d : Nat} {H : ex_H} {a : Nat} (h0 : H[a]? = some (ob 2 [.int 0, .null])) (hl : H.length = a + 1) : ex_Met mX2_init (d + 1) 1 6 H [.ref a] (fun H' r => r = none ∧ ex_ch H H' [a] ∧ H'.length = a + 2 ∧ fs_is H' a 0 (fun _ => (0, 0, 0, 0, 0))) := by
  refine ex_meth [(0, .ref a)] rfl rfl rfl (fun b => Nat.le_of_ble_eq_true rfl) ?_
  refine ew_aload_n (M := mX2_init) dX2_init_0 rfl (Or.inr (Or.inl ⟨_, rfl⟩)) ?_
  refine ew_objInit (M := mX2_init) dX2_init_1 oX2_3 oi_inst oi_code (by omega) rfl ?_
  refine ew_aload_n (M := mX2_init) dX2_init_4 rfl (Or.inr (Or.inl ⟨_, rfl⟩)) ?_
  refine ew_iconst (M := mX2_init) dX2_init_5 (v := nI 0) (by decide) ?_
  refine ew_put (M := mX2_init) dX2_init_6 fX2_9 h0 (by exact Nat.le_of_ble_eq_true rfl) ⟨rfl, rfl, fun _ h => by cases h⟩ ?_
  obtain ⟨G1, e1, l1, n1, c1⟩ := ex_putc hl h0 (ob 2 [.int (nI 0), .null])
  refine ew_heap e1 ?_
  have h0 := n1
  refine ew_aload_n (M := mX2_init) dX2_init_9 rfl (Or.inr (Or.inl ⟨_, rfl⟩)) ?_
  refine ew_bipush (M := mX2_init) dX2_init_10 (v := nI 6) (by decide) ?_
  refine ew_anew (M := mX2_init) (N := 6) (t0 := 2) dX2_init_12 lX2_15 ao_X1 (fun _ => rfl) (by decide) (by decide) (by decide) (by decide) (by decide) ?_
  obtain ⟨G2, e2, l2, n2, c2⟩ := ex_push l1 (rr RX1 6 (fun _ => none))
  refine ew_heap e2 ?_
  rw [l1]
  have l2 : G2.length = a + 2 := l2
  have h0 := c2.at h0 (by simp)
  have m1 := n2
  refine ew_putF (M := mX2_init) dX2_init_15 fX2_17 rfl rfl h0 (by exact Nat.le_of_ble_eq_true rfl) ⟨rfl, rfl, fun _ h => by cases h⟩ ?_
  obtain ⟨G3, e3, l3, n3, c3⟩ := ex_putc l2 h0 (ob 2 [.int (nI 0), .ref (a + 1)])
  refine ew_heap e3 ?_
  have m1 := c3.at m1 (by simp <;> omega)
  have h0 := n3
  refine ew_vret (M := mX2_init) dX2_init_18 rfl (by decide) (by decide) ?_
  exact ⟨rfl, ((((ex_ch.rf (H := H) (L := [a])).tr c1 (by simp <;> omega)).tr c2 (by simp <;> omega)).tr c3 (by simp <;> omega)), l3, Nat.zero_le _, h0, _, m1, fun k hk => absurd hk (Nat.not_lt_zero k)⟩
theorem sp_State {d : Nat} {H : ex_H} {a : Nat} (h0 : H[a]? = some (ob 6 [.null, .null, .int 0, .int 0])) (hl : H.length = a + 1) : ex_Met mX6_init (d + 2) 5 172 H [.ref a] (fun H' r => r = none ∧ ex_ch H H' [a] ∧ H'.length = a + 6 ∧ st_is H' a ((1, 1, fun _ => 0, fun _ => 0), (0, fun _ => (0, 0, 0, 0, 0)), 0, 0)) := by
  have z98 : ∀ k ∈ [a], k = a := fun k hk => by simpa using hk
  refine ex_meth [(0, .ref a)] rfl rfl rfl (fun b => Nat.le_of_ble_eq_true rfl) ?_
  refine ew_aload_n (M := mX6_init) dX6_init_0 rfl (Or.inr (Or.inl ⟨_, rfl⟩)) ?_
  refine ew_objInit (M := mX6_init) dX6_init_1 oX6_3 oi_inst oi_code (by omega) rfl ?_
  refine ew_aload_n (M := mX6_init) dX6_init_4 rfl (Or.inr (Or.inl ⟨_, rfl⟩)) ?_
  refine ew_new (M := mX6_init) dX6_init_5 nX6_9 (by decide) (by decide) ?_
  obtain ⟨G1, e1, l1, n1, c1⟩ := ex_push hl (ob 4 [.int 0, .int 0, .null, .null])
  refine ew_heap e1 ?_
  rw [hl]
  have l1 : G1.length = a + 2 := l1
  have h0 := c1.at h0 (by simp)
  have m1 := n1
  refine ew_dup (M := mX6_init) dX6_init_8 rfl ?_
  refine ew_callI (M := mX6_init) dX6_init_9 vX6_11 (sp_Pic m1 l1) rfl (Nat.le_of_ble_eq_true rfl) ⟨by decide, by decide⟩ rfl (fun G2 r2 q2 => ?_)
  obtain ⟨rfl, c2, l2, p1⟩ := q2
  have l2 : G2.length = a + 4 := l2
  have h0 := c2.at h0 (by simp <;> omega)
  refine ew_putF (M := mX6_init) dX6_init_12 fX6_12 rfl rfl h0 (by exact Nat.le_of_ble_eq_true rfl) ⟨rfl, rfl, fun _ h => by cases h⟩ ?_
  obtain ⟨G3, e3, l3, n3, c3⟩ := ex_putc l2 h0 (ob 6 [.ref (a + 1), .null, .int 0, .int 0])
  refine ew_heap e3 ?_
  have h0 := n3
  refine ew_aload_n (M := mX6_init) dX6_init_15 rfl (Or.inr (Or.inl ⟨_, rfl⟩)) ?_
  refine ew_new (M := mX6_init) dX6_init_16 nX6_18 (by decide) (by decide) ?_
  obtain ⟨G4, e4, l4, n4, c4⟩ := ex_push l3 (ob 2 [.int 0, .null])
  refine ew_heap e4 ?_
  rw [l3]
  have l4 : G4.length = a + 5 := l4
  have h0 := c4.at h0 (by simp)
  have m2 := n4
  refine ew_dup (M := mX6_init) dX6_init_19 rfl ?_
  refine ew_callI (M := mX6_init) dX6_init_20 vX6_20 (sp_Filters m2 l4) rfl (Nat.le_of_ble_eq_true rfl) ⟨by decide, by decide⟩ rfl (fun G5 r5 q5 => ?_)
  obtain ⟨rfl, c5, l5, p2⟩ := q5
  have l5 : G5.length = a + 6 := l5
  have h0 := c5.at h0 (by simp <;> omega)
  refine ew_putF (M := mX6_init) dX6_init_23 fX6_21 rfl rfl h0 (by exact Nat.le_of_ble_eq_true rfl) ⟨rfl, rfl, fun _ h => by cases h⟩ ?_
  obtain ⟨G6, e6, l6, n6, c6⟩ := ex_putc l5 h0 (ob 6 [.ref (a + 1), .ref (a + 4), .int 0, .int 0])
  refine ew_heap e6 ?_
  have h0 := n6
  refine ew_aload_n (M := mX6_init) dX6_init_26 rfl (Or.inr (Or.inl ⟨_, rfl⟩)) ?_
  refine ew_iconst (M := mX6_init) dX6_init_27 (v := nI 0) (by decide) ?_
  refine ew_put (M := mX6_init) dX6_init_28 fX6_25 h0 (by exact Nat.le_of_ble_eq_true rfl) ⟨rfl, rfl, fun _ h => by cases h⟩ ?_
  obtain ⟨G7, e7, l7, n7, c7⟩ := ex_putc l6 h0 (ob 6 [.ref (a + 1), .ref (a + 4), .int (nI 0), .int 0])
  refine ew_heap e7 ?_
  have h0 := n7
  refine ew_aload_n (M := mX6_init) dX6_init_31 rfl (Or.inr (Or.inl ⟨_, rfl⟩)) ?_
  refine ew_iconst (M := mX6_init) dX6_init_32 (v := nI 0) (by decide) ?_
  refine ew_put (M := mX6_init) dX6_init_33 fX6_29 h0 (by exact Nat.le_of_ble_eq_true rfl) ⟨rfl, rfl, fun _ h => by cases h⟩ ?_
  obtain ⟨G8, e8, l8, n8, c8⟩ := ex_putc l7 h0 (ob 6 [.ref (a + 1), .ref (a + 4), .int (nI 0), .int (nI 0)])
  refine ew_heap e8 ?_
  have h0 := n8
  refine ew_vret (M := mX6_init) dX6_init_36 rfl (by decide) (by decide) ?_
  have b1 := p1.ch (((((((ex_ch.rf (H := G2) (L := [a])).tr c3 (by simp <;> omega)).tr c4 (by simp <;> omega)).tr c5 (by simp <;> omega)).tr c6 (by simp <;> omega)).tr c7 (by simp <;> omega)).tr c8 (by simp <;> omega)) (by simp <;> omega) (by simp <;> omega) (by simp <;> omega)
  obtain ⟨y1, y2, y3, y4, y5⟩ := p2
  have hx := ((((ex_ch.rf (H := G5) (L := [a])).tr c6 (by simp <;> omega)).tr c7 (by simp <;> omega)).tr c8 (by simp <;> omega))
  exact ⟨rfl, (((((((((ex_ch.rf (H := H) (L := [a])).tr c1 (by simp <;> omega)).tr c2 (by simp <;> omega)).tr c3 (by simp <;> omega)).tr c4 (by simp <;> omega)).tr c5 (by simp <;> omega)).tr c6 (by simp <;> omega)).tr c7 (by simp <;> omega)).tr c8 (by simp <;> omega)), l8, h0, by decide, by decide, b1, y1, hx.at y2 (by simp <;> omega), y3, hx.at y4 (by simp <;> omega), fun k hk => absurd hk (Nat.not_lt_zero k)⟩
theorem sp_Book {d : Nat} {H : ex_H} (h0 : H[73]? = some (ob 0 [.int 0, .null, .null, .null])) (hl : H.length = 73 + 1) : ex_Met mX0_init (d + 1) 3 60 H [.ref 73] (fun H' r => r = none ∧ ex_ch H H' [73] ∧ H'.length = 77 ∧ bk_is H' 0 (fun _ => (0, 0, 0))) := by
  refine ex_meth [(0, .ref 73)] rfl rfl rfl (fun b => Nat.le_of_ble_eq_true rfl) ?_
  refine ew_aload_n (M := mX0_init) dX0_init_0 rfl (Or.inr (Or.inl ⟨_, rfl⟩)) ?_
  refine ew_objInit (M := mX0_init) dX0_init_1 oX0_3 oi_inst oi_code (by omega) rfl ?_
  refine ew_aload_n (M := mX0_init) dX0_init_4 rfl (Or.inr (Or.inl ⟨_, rfl⟩)) ?_
  refine ew_iconst (M := mX0_init) dX0_init_5 (v := nI 0) (by decide) ?_
  refine ew_put (M := mX0_init) dX0_init_6 fX0_9 h0 (by exact Nat.le_of_ble_eq_true rfl) ⟨rfl, rfl, fun _ h => by cases h⟩ ?_
  obtain ⟨G1, e1, l1, n1, c1⟩ := ex_putc hl h0 (ob 0 [.int (nI 0), .null, .null, .null])
  refine ew_heap e1 ?_
  have h0 := n1
  refine ew_aload_n (M := mX0_init) dX0_init_9 rfl (Or.inr (Or.inl ⟨_, rfl⟩)) ?_
  refine ew_bipush (M := mX0_init) dX0_init_10 (v := nI 20) (by decide) ?_
  refine ew_newa (M := mX0_init) (ty := .int) (N := 20) (t0 := 0) dX0_init_12 rfl ac_int (fun _ => rfl) (fun _ h => by cases h) rfl (by decide) (by decide) (by decide) (by decide) (by decide) ?_
  obtain ⟨G2, e2, l2, n2, c2⟩ := ex_push l1 (ar .int 20 (fun _ => 0))
  refine ew_heap e2 ?_
  rw [l1]
  have l2 : G2.length = 75 := l2
  have h0 := c2.at h0 (by simp)
  have m1 := n2
  refine ew_putF (M := mX0_init) dX0_init_14 fX0_15 rfl rfl h0 (by exact Nat.le_of_ble_eq_true rfl) ⟨rfl, rfl, fun _ h => by cases h⟩ ?_
  obtain ⟨G3, e3, l3, n3, c3⟩ := ex_putc l2 h0 (ob 0 [.int (nI 0), .ref 74, .null, .null])
  refine ew_heap e3 ?_
  have m1 := c3.at m1 (by simp <;> omega)
  have h0 := n3
  refine ew_aload_n (M := mX0_init) dX0_init_17 rfl (Or.inr (Or.inl ⟨_, rfl⟩)) ?_
  refine ew_bipush (M := mX0_init) dX0_init_18 (v := nI 20) (by decide) ?_
  refine ew_newa (M := mX0_init) (ty := .int) (N := 20) (t0 := 0) dX0_init_20 rfl ac_int (fun _ => rfl) (fun _ h => by cases h) rfl (by decide) (by decide) (by decide) (by decide) (by decide) ?_
  obtain ⟨G4, e4, l4, n4, c4⟩ := ex_push l3 (ar .int 20 (fun _ => 0))
  refine ew_heap e4 ?_
  rw [l3]
  have l4 : G4.length = 76 := l4
  have h0 := c4.at h0 (by simp)
  have m1 := c4.at m1 (by simp)
  have m2 := n4
  refine ew_putF (M := mX0_init) dX0_init_22 fX0_19 rfl rfl h0 (by exact Nat.le_of_ble_eq_true rfl) ⟨rfl, rfl, fun _ h => by cases h⟩ ?_
  obtain ⟨G5, e5, l5, n5, c5⟩ := ex_putc l4 h0 (ob 0 [.int (nI 0), .ref 74, .ref 75, .null])
  refine ew_heap e5 ?_
  have m1 := c5.at m1 (by simp <;> omega)
  have m2 := c5.at m2 (by simp <;> omega)
  have h0 := n5
  refine ew_aload_n (M := mX0_init) dX0_init_25 rfl (Or.inr (Or.inl ⟨_, rfl⟩)) ?_
  refine ew_bipush (M := mX0_init) dX0_init_26 (v := nI 20) (by decide) ?_
  refine ew_newa (M := mX0_init) (ty := .int) (N := 20) (t0 := 0) dX0_init_28 rfl ac_int (fun _ => rfl) (fun _ h => by cases h) rfl (by decide) (by decide) (by decide) (by decide) (by decide) ?_
  obtain ⟨G6, e6, l6, n6, c6⟩ := ex_push l5 (ar .int 20 (fun _ => 0))
  refine ew_heap e6 ?_
  rw [l5]
  have l6 : G6.length = 77 := l6
  have h0 := c6.at h0 (by simp)
  have m1 := c6.at m1 (by simp)
  have m2 := c6.at m2 (by simp)
  have m3 := n6
  refine ew_putF (M := mX0_init) dX0_init_30 fX0_22 rfl rfl h0 (by exact Nat.le_of_ble_eq_true rfl) ⟨rfl, rfl, fun _ h => by cases h⟩ ?_
  obtain ⟨G7, e7, l7, n7, c7⟩ := ex_putc l6 h0 (ob 0 [.int (nI 0), .ref 74, .ref 75, .ref 76])
  refine ew_heap e7 ?_
  have m1 := c7.at m1 (by simp <;> omega)
  have m2 := c7.at m2 (by simp <;> omega)
  have m3 := c7.at m3 (by simp <;> omega)
  have h0 := n7
  refine ew_vret (M := mX0_init) dX0_init_33 rfl (by decide) (by decide) ?_
  exact ⟨rfl, ((((((((ex_ch.rf (H := H) (L := [73])).tr c1 (by simp <;> omega)).tr c2 (by simp <;> omega)).tr c3 (by simp <;> omega)).tr c4 (by simp <;> omega)).tr c5 (by simp <;> omega)).tr c6 (by simp <;> omega)).tr c7 (by simp <;> omega)), l7, Nat.zero_le _, fun k hk => absurd hk (Nat.not_lt_zero k), h0, _, _, _, m1, m2, m3, fun k hk => absurd hk (Nat.not_lt_zero k)⟩
theorem sp_Window {d : Nat} {H : ex_H} (h0 : H[77]? = some (ob 8 [.int 0, .null, .null])) (hl : H.length = 77 + 1) : ex_Met mX8_init (d + 1) 2 272 H [.ref 77] (fun H' r => r = none ∧ ex_ch H H' [77] ∧ H'.length = 80 ∧ wi_is H' 77 (fun _ => 0)) := by
  refine ex_meth [(0, .ref 77)] rfl rfl rfl (fun b => Nat.le_of_ble_eq_true rfl) ?_
  refine ew_aload_n (M := mX8_init) dX8_init_0 rfl (Or.inr (Or.inl ⟨_, rfl⟩)) ?_
  refine ew_objInit (M := mX8_init) dX8_init_1 oX8_3 oi_inst oi_code (by omega) rfl ?_
  refine ew_aload_n (M := mX8_init) dX8_init_4 rfl (Or.inr (Or.inl ⟨_, rfl⟩)) ?_
  refine ew_iconst (M := mX8_init) dX8_init_5 (v := nI 0) (by decide) ?_
  refine ew_put (M := mX8_init) dX8_init_6 fX8_9 h0 (by exact Nat.le_of_ble_eq_true rfl) ⟨rfl, rfl, fun _ h => by cases h⟩ ?_
  obtain ⟨G1, e1, l1, n1, c1⟩ := ex_putc hl h0 (ob 8 [.int (nI 0), .null, .null])
  refine ew_heap e1 ?_
  have h0 := n1
  refine ew_aload_n (M := mX8_init) dX8_init_9 rfl (Or.inr (Or.inl ⟨_, rfl⟩)) ?_
  refine ew_bipush (M := mX8_init) dX8_init_10 (v := nI 16) (by decide) ?_
  refine ew_newa (M := mX8_init) (ty := .int) (N := 16) (t0 := 0) dX8_init_12 rfl ac_int (fun _ => rfl) (fun _ h => by cases h) rfl (by decide) (by decide) (by decide) (by decide) (by decide) ?_
  obtain ⟨G2, e2, l2, n2, c2⟩ := ex_push l1 (ar .int 16 (fun _ => 0))
  refine ew_heap e2 ?_
  rw [l1]
  have l2 : G2.length = 79 := l2
  have h0 := c2.at h0 (by simp)
  have m1 := n2
  refine ew_putF (M := mX8_init) dX8_init_14 fX8_15 rfl rfl h0 (by exact Nat.le_of_ble_eq_true rfl) ⟨rfl, rfl, fun _ h => by cases h⟩ ?_
  obtain ⟨G3, e3, l3, n3, c3⟩ := ex_putc l2 h0 (ob 8 [.int (nI 0), .ref 78, .null])
  refine ew_heap e3 ?_
  have m1 := c3.at m1 (by simp <;> omega)
  have h0 := n3
  refine ew_aload_n (M := mX8_init) dX8_init_17 rfl (Or.inr (Or.inl ⟨_, rfl⟩)) ?_
  refine ew_sipush (M := mX8_init) dX8_init_18 (v := nI 256) (by decide) ?_
  refine ew_newa (M := mX8_init) (ty := .int) (N := 256) (t0 := 0) dX8_init_21 rfl ac_int (fun _ => rfl) (fun _ h => by cases h) rfl (by decide) (by decide) (by decide) (by decide) (by decide) ?_
  obtain ⟨G4, e4, l4, n4, c4⟩ := ex_push l3 (ar .int 256 (fun _ => 0))
  refine ew_heap e4 ?_
  rw [l3]
  have l4 : G4.length = 80 := l4
  have h0 := c4.at h0 (by simp)
  have m1 := c4.at m1 (by simp)
  have m2 := n4
  refine ew_putF (M := mX8_init) dX8_init_23 fX8_19 rfl rfl h0 (by exact Nat.le_of_ble_eq_true rfl) ⟨rfl, rfl, fun _ h => by cases h⟩ ?_
  obtain ⟨G5, e5, l5, n5, c5⟩ := ex_putc l4 h0 (ob 8 [.int (nI 0), .ref 78, .ref 79])
  refine ew_heap e5 ?_
  have m1 := c5.at m1 (by simp <;> omega)
  have m2 := c5.at m2 (by simp <;> omega)
  have h0 := n5
  refine ew_vret (M := mX8_init) dX8_init_26 rfl (by decide) (by decide) ?_
  refine ⟨rfl, ((((((ex_ch.rf (H := H) (L := [77])).tr c1 (by simp <;> omega)).tr c2 (by simp <;> omega)).tr c3 (by simp <;> omega)).tr c4 (by simp <;> omega)).tr c5 (by simp <;> omega)), l5, ?_, _, _, m1, m2, fun k hk => by rw [bs_zero, nI_0], fun k hk => rfl⟩
  rw [bs_zero]
  exact h0
theorem sp_History {d : Nat} {H : ex_H} (h0 : H[23]? = some (ob 3 [.int 0, .int 0, .null])) (hl : H.length = 23 + 1) : ex_Met mX3_init (d + 2) 49 2640 H [.ref 23] (fun H' r => r = none ∧ ex_ch H H' [23] ∧ H'.length = 73 ∧ hi_is H' 0 (fun _ => (1, 1, fun _ => 0, fun _ => 0))) := by
  refine ex_meth [(0, .ref 23)] rfl rfl rfl (fun b => Nat.le_of_ble_eq_true rfl) ?_
  refine ew_aload_n (M := mX3_init) dX3_init_0 rfl (Or.inr (Or.inl ⟨_, rfl⟩)) ?_
  refine ew_objInit (M := mX3_init) dX3_init_1 oX3_1 oi_inst oi_code (by omega) rfl ?_
  refine ew_aload_n (M := mX3_init) dX3_init_4 rfl (Or.inr (Or.inl ⟨_, rfl⟩)) ?_
  refine ew_iconst (M := mX3_init) dX3_init_5 (v := nI 0) (by decide) ?_
  refine ew_put (M := mX3_init) dX3_init_6 fX3_7 h0 (by exact Nat.le_of_ble_eq_true rfl) ⟨rfl, rfl, fun _ h => by cases h⟩ ?_
  obtain ⟨G1, e1, l1, n1, c1⟩ := ex_putc hl h0 (ob 3 [.int (nI 0), .int 0, .null])
  refine ew_heap e1 ?_
  have h0 := n1
  refine ew_aload_n (M := mX3_init) dX3_init_9 rfl (Or.inr (Or.inl ⟨_, rfl⟩)) ?_
  refine ew_iconst (M := mX3_init) dX3_init_10 (v := nI 0) (by decide) ?_
  refine ew_put (M := mX3_init) dX3_init_11 fX3_13 h0 (by exact Nat.le_of_ble_eq_true rfl) ⟨rfl, rfl, fun _ h => by cases h⟩ ?_
  obtain ⟨G2, e2, l2, n2, c2⟩ := ex_putc l1 h0 (ob 3 [.int (nI 0), .int (nI 0), .null])
  refine ew_heap e2 ?_
  have h0 := n2
  refine ew_aload_n (M := mX3_init) dX3_init_14 rfl (Or.inr (Or.inl ⟨_, rfl⟩)) ?_
  refine ew_bipush (M := mX3_init) dX3_init_15 (v := nI 16) (by decide) ?_
  refine ew_anew (M := mX3_init) (N := 16) (t0 := 3) dX3_init_17 lX3_16 ao_X4 (fun _ => rfl) (by decide) (by decide) (by decide) (by decide) (by decide) ?_
  obtain ⟨G3, e3, l3, n3, c3⟩ := ex_push l2 (rr RX4 16 (fun _ => none))
  refine ew_heap e3 ?_
  rw [l2]
  have l3 : G3.length = 25 := l3
  have h0 := c3.at h0 (by simp)
  have m1 := n3
  refine ew_putF (M := mX3_init) dX3_init_20 fX3_18 rfl rfl h0 (by exact Nat.le_of_ble_eq_true rfl) ⟨rfl, rfl, fun _ h => by cases h⟩ ?_
  obtain ⟨G4, e4, l4, n4, c4⟩ := ex_putc l3 h0 (ob 3 [.int (nI 0), .int (nI 0), .ref 24])
  refine ew_heap e4 ?_
  have m1 := c4.at m1 (by simp <;> omega)
  have h0 := n4
  refine ew_iconst (M := mX3_init) dX3_init_23 (v := nI 0) (by decide) ?_
  refine ew_istore_n (M := mX3_init) dX3_init_24 (by decide) rfl ?_
  have hcA := (((((ex_ch.rf (H := H) (L := [23])).tr c1 (by simp <;> omega)).tr c2 (by simp <;> omega)).tr c3 (by simp <;> omega)).tr c4 (by simp <;> omega))
  refine ew_cs (cells' := 1 + 3 * 0) (slots' := 16 + 164 * 0) (by decide) (by decide) ?_
  refine ew_ls [(0, .ref 23), (1, .int (nI 0))] ⟨rfl, rfl, trivial⟩ ?_
  refine nat_down (P := fun t => ∀ H2 : ex_H, ex_ch H H2 [23] → H2.length = 25 + 3 * t → H2[23]? = some (ob 3 [.int (nI 0), .int (nI 0), .ref 24]) → (∃ f, H2[24]? = some (rr RX4 16 f) ∧ ∀ i, i < t → f i = some (25 + 3 * i)) → (∀ i, i < t → pi_any H2 (25 + 3 * i)) → ex_W mX3_init (d + 2) 49 2640 _ H2 25 [(0, .ref 23), (1, .int (nI t))] [] (1 + 3 * t) (16 + 164 * t)) 16 (fun t ht k => ?_) ?_ _ hcA l4 h0 ⟨_, m1, fun i hi => absurd hi (Nat.not_lt_zero i)⟩ (fun i hi => absurd hi (Nat.not_lt_zero i))
  · intro H2 hc2 hl2 b1 ⟨f, b2, hf⟩ hp
    refine ew_iload_n (M := mX3_init) dX3_init_25 rfl ?_
    refine ew_bipush (M := mX3_init) dX3_init_26 (v := nI 16) (by decide) ?_
    refine ew_icmp_ge (M := mX3_init) (tgt := 50) dX3_init_28 rfl (fun h => absurd h (nI_ge ht (by decide))) (fun _ => ?_)
    refine ew_aload_n (M := mX3_init) dX3_init_31 rfl (Or.inr (Or.inl ⟨_, rfl⟩)) ?_
    refine ew_get (M := mX3_init) dX3_init_32 fX3_18 (by repeat (first | with_reducible assumption | refine ex_eq ?_ | refine ex_ne ?_ (by omega) | exact ex_lt (by with_reducible assumption) | rw [List.length_set] | assumption)) (by rfl) ?_
    refine ew_iload_n (M := mX3_init) dX3_init_35 rfl ?_
    refine ew_new (M := mX3_init) dX3_init_36 nX3_16 (by omega) (by omega) ?_
    obtain ⟨G1, e1, l1, n1, c1⟩ := ex_push hl2 (ob 4 [.int 0, .int 0, .null, .null])
    refine ew_heap e1 ?_
    rw [hl2]
    have b1 := c1.at b1 (by simp)
    have b2 := c1.at b2 (by simp)
    refine ew_dup (M := mX3_init) dX3_init_39 rfl ?_
    refine ew_callI (M := mX3_init) dX3_init_40 vX3_22 (sp_Pic n1 l1) rfl (Nat.le_of_ble_eq_true rfl) ⟨by omega, by omega⟩ rfl (fun G2 r2 q2 => ?_)
    obtain ⟨rfl, c2, l2, p2⟩ := q2
    have b1 := c2.at b1 (by simp <;> omega)
    have b2 := c2.at b2 (by simp <;> omega)
    have p20 := p2
    obtain ⟨-, gs2, ms2, ⟨p21, -, -⟩, -⟩ := p20
    refine ew_aast (t0 := 3) (M := mX3_init) t dX3_init_43 b2 (fun _ => rfl) p21 rfl ⟨rfl, ht, by decide⟩ ?_
    obtain ⟨G3, e3, l3, n3, c3⟩ := ex_putc l2 b2 (rr RX4 16 (va_up f t (some (25 + 3 * t))))
    refine ew_heap e3 ?_
    have b1 := c3.at b1 (by simp)
    refine ew_iinc (M := mX3_init) dX3_init_44 rfl (ex_inc t) (by decide) rfl ?_
    refine ew_goto (M := mX3_init) (tgt := 25) dX3_init_47 rfl ?_
    refine ew_cs (cells' := 1 + 3 * (t + 1)) (slots' := 16 + 164 * (t + 1)) (by omega) (by omega) ?_
    refine ew_ls _ ?_ (k G3 (((hc2.tr c1 (by simp)).tr c2 (by simp <;> omega)).tr c3 (by simp <;> omega)) (by rw [l3]; omega) b1 ⟨_, n3, fun i hi => ?_⟩ (fun i hi => ?_))
    · exact ⟨rfl, rfl, trivial⟩
    · unfold va_up
      by_cases e : i = t
      · rw [if_pos e, e]
      · rw [if_neg e]
        exact hf i (by omega)
    · by_cases e : i = t
      · subst e
        exact (p2.any).ch c3 (by simp <;> omega) (by simp <;> omega) (by simp <;> omega)
      · have hi' : i < t := by omega
        have hq := hp i hi'
        obtain ⟨w_, h_, gs_, ms_, z1, z2, z3⟩ := hq
        have y1 := ex_lt z1
        have y2 := ex_lt z2
        have y3 := ex_lt z3
        exact ⟨w_, h_, gs_, ms_, (c3.at (c2.at (c1.at z1 (by simp)) (by simp <;> omega)) (by simp <;> omega)), (c3.at (c2.at (c1.at z2 (by simp)) (by simp <;> omega)) (by simp <;> omega)), (c3.at (c2.at (c1.at z3 (by simp)) (by simp <;> omega)) (by simp <;> omega))⟩
  · intro H2 hc2 hl2 b1 ⟨f, b2, hf⟩ hp
    refine ew_iload_n (M := mX3_init) dX3_init_25 rfl ?_
    refine ew_bipush (M := mX3_init) dX3_init_26 (v := nI 16) (by decide) ?_
    refine ew_icmp_ge (M := mX3_init) (tgt := 50) dX3_init_28 rfl (fun _ => ?_) (fun h => absurd (nI_le (Nat.le_refl _) (by decide)) h)
    refine ew_vret (M := mX3_init) dX3_init_50 rfl (Nat.le_refl _) (Nat.le_refl _) ?_
    exact ⟨rfl, hc2, hl2, Nat.zero_le _, hp, ⟨f, b2, hf⟩, 0, by decide, b1, fun i hi => absurd hi (Nat.not_lt_zero i)⟩
