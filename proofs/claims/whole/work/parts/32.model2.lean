theorem ms_fault {d : Nat} {H : ex_H} {S : SS} (hS : mo_is H S) : ex_Met mX10_fault d 0 0 H [.ref 86] (fun H' r => r = some (.int ((S.2.1, S)).1) ∧ ex_ch H H' mL ∧ mo_is H' ((S.2.1, S)).2) := by
  obtain ⟨R, mn, C, N, hS⟩ := hS
  obtain ⟨a1, ⟨hfi, hsd, hkp⟩, ⟨W, a2, hw0, ⟨hcn, hwh⟩, hwi⟩, ⟨T, a3, htn, htx⟩, ⟨F, a4, hfl⟩, ⟨IF, IL, IS, a5, a6, a7, him⟩, ⟨BX, BY, BG, a8, a9, a10, hbn, hbk⟩, a11, a12⟩ := id hS
  refine ex_meth [(0, .ref 86)] rfl rfl rfl (fun b => Nat.le_of_ble_eq_true rfl) ?_
  refine ew_aload_n (M := mX10_fault) dX10_fault_0 rfl (Or.inr (Or.inl ⟨_, rfl⟩)) ?_
  refine ew_get (M := mX10_fault) dX10_fault_1 fX10_16 (by repeat (first | with_reducible assumption | refine ex_eq ?_ | refine ex_ne ?_ (by omega) | exact ex_lt (by with_reducible assumption) | rw [List.length_set] | assumption)) (by rfl) ?_
  refine ew_iret (M := mX10_fault) dX10_fault_4 rfl (by first | rfl | decide) (Nat.le_refl _) (Nat.le_refl _) ?_
  exact ⟨rfl, ex_ch.rf, _, _, _, _, hS⟩
theorem ms_feed {d : Nat} {H : ex_H} {S : SS} (hS : mo_is H S) (x : Int32) : ex_Met mX10_feed (d + 1) 0 0 H [.ref 86, .int x] (fun H' r => r = some (.int (f_feed S x).1) ∧ ex_ch H H' mL ∧ mo_is H' (f_feed S x).2) := by
  obtain ⟨R, mn, C, N, hS⟩ := hS
  obtain ⟨a1, ⟨hfi, hsd, hkp⟩, ⟨W, a2, hw0, ⟨hcn, hwh⟩, hwi⟩, ⟨T, a3, htn, htx⟩, ⟨F, a4, hfl⟩, ⟨IF, IL, IS, a5, a6, a7, him⟩, ⟨BX, BY, BG, a8, a9, a10, hbn, hbk⟩, a11, a12⟩ := id hS
  by_cases hx : nI 0 ≤ x ∧ x ≤ nI 255
  · obtain ⟨j, hj, rfl⟩ := nI_of3 (by decide) hx
    by_cases hn : S.1.1 < 180
    · have ef : f_feed S (nI j) = (nI (S.1.1 + 1), s_text S (S.1.1 + 1, va_up S.1.2 S.1.1 j)) := by
        unfold f_feed
        rw [cif_y hx, cif_y hn, nI_clamp (by omega)]
      refine ex_meth [(0, .ref 86), (1, .int (nI j))] rfl rfl rfl (fun b => Nat.le_of_ble_eq_true rfl) ?_
      refine ew_iload_n (M := mX10_feed) dX10_feed_0 rfl ?_
      refine ew_i2l (M := mX10_feed) dX10_feed_1 ?_
      refine ew_lconst (M := mX10_feed) dX10_feed_2 (v := 0) (by decide) ?_
      refine ew_ldc2 (M := mX10_feed) dX10_feed_3 kX10_108 ?_
      refine ew_callS (M := mX10_feed) dX10_feed_6 vX10_58 (ms_in_y (l := nI 0) (g := nI 255) (by decide) (by decide) hx.1 hx.2) rfl (Nat.le_of_ble_eq_true rfl) ⟨Nat.le_refl _, Nat.le_refl _⟩ rfl (fun H6 r6 q6 => ?_)
      obtain ⟨rfl, rfl⟩ := q6
      refine ew_if_ne (M := mX10_feed) (tgt := 15) dX10_feed_9 rfl (fun _ => ?_) (fun h => absurd h (by decide))
      refine ew_aload_n (M := mX10_feed) dX10_feed_15 rfl (Or.inr (Or.inl ⟨_, rfl⟩)) ?_
      refine ew_get (M := mX10_feed) dX10_feed_16 fX10_98 (by repeat (first | with_reducible assumption | refine ex_eq ?_ | refine ex_ne ?_ (by omega) | exact ex_lt (by with_reducible assumption) | rw [List.length_set] | assumption)) (by rfl) ?_
      refine ew_sipush (M := mX10_feed) dX10_feed_19 (v := nI 180) (by decide) ?_
      refine ew_icmp_ne (M := mX10_feed) (tgt := 28) dX10_feed_22 rfl (fun _ => ?_) (fun h => absurd h (fun e => by rw [nI_eq (by omega) (by decide)] at e; omega))
      refine ew_aload_n (M := mX10_feed) dX10_feed_28 rfl (Or.inr (Or.inl ⟨_, rfl⟩)) ?_
      refine ew_get (M := mX10_feed) dX10_feed_29 fX10_13 (by repeat (first | with_reducible assumption | refine ex_eq ?_ | refine ex_ne ?_ (by omega) | exact ex_lt (by with_reducible assumption) | rw [List.length_set] | assumption)) (by rfl) ?_
      refine ew_aload_n (M := mX10_feed) dX10_feed_32 rfl (Or.inr (Or.inl ⟨_, rfl⟩)) ?_
      refine ew_get (M := mX10_feed) dX10_feed_33 fX10_98 (by repeat (first | with_reducible assumption | refine ex_eq ?_ | refine ex_ne ?_ (by omega) | exact ex_lt (by with_reducible assumption) | rw [List.length_set] | assumption)) (by rfl) ?_
      refine ew_iload_n (M := mX10_feed) dX10_feed_36 rfl ?_
      refine ew_iast (M := mX10_feed) S.1.1 dX10_feed_37 (by repeat (first | with_reducible assumption | refine ex_eq ?_ | refine ex_ne ?_ (by omega) | exact ex_lt (by with_reducible assumption) | rw [List.length_set] | assumption)) ⟨rfl, hn, by decide⟩ ?_
      refine ew_aload_n (M := mX10_feed) dX10_feed_38 rfl (Or.inr (Or.inl ⟨_, rfl⟩)) ?_
      refine ew_dup (M := mX10_feed) dX10_feed_39 rfl ?_
      refine ew_get (M := mX10_feed) dX10_feed_40 fX10_98 (by repeat (first | with_reducible assumption | refine ex_eq ?_ | refine ex_ne ?_ (by omega) | exact ex_lt (by with_reducible assumption) | rw [List.length_set] | assumption)) (by rfl) ?_
      refine ew_iconst (M := mX10_feed) dX10_feed_43 (v := nI 1) (by decide) ?_
      refine ew_iadd (M := mX10_feed) dX10_feed_44 ?_
      rw [nI_add]
      refine ew_put (M := mX10_feed) dX10_feed_45 fX10_98 (by repeat (first | with_reducible assumption | refine ex_eq ?_ | refine ex_ne ?_ (by omega) | exact ex_lt (by with_reducible assumption) | rw [List.length_set] | assumption)) (by exact Nat.le_of_ble_eq_true rfl) ⟨rfl, rfl, fun _ h => by cases h⟩ ?_
      refine ew_aload_n (M := mX10_feed) dX10_feed_48 rfl (Or.inr (Or.inl ⟨_, rfl⟩)) ?_
      refine ew_get (M := mX10_feed) dX10_feed_49 fX10_98 (by repeat (first | with_reducible assumption | refine ex_eq ?_ | refine ex_ne ?_ (by omega) | exact ex_lt (by with_reducible assumption) | rw [List.length_set] | assumption)) (by rfl) ?_
      refine ew_iret (M := mX10_feed) dX10_feed_52 rfl (by first | rfl | decide) (Nat.le_refl _) (Nat.le_refl _) ?_
      refine ⟨by rw [ef], (ex_ch.rf.set (by decide)).set (by decide), ?_⟩
      rw [ef]
      exact ⟨R, mn, C, N, (by repeat (first | with_reducible assumption | refine ex_eq ?_ | refine ex_ne ?_ (by omega) | exact ex_lt (by with_reducible assumption) | rw [List.length_set] | assumption)), ⟨hfi, hsd, hkp⟩, ⟨W, (by repeat (first | with_reducible assumption | refine ex_eq ?_ | refine ex_ne ?_ (by omega) | exact ex_lt (by with_reducible assumption) | rw [List.length_set] | assumption)), hw0, ⟨hcn, hwh⟩, hwi⟩, ⟨upd T S.1.1 (nI j), (by repeat (first | with_reducible assumption | refine ex_eq ?_ | refine ex_ne ?_ (by omega) | exact ex_lt (by with_reducible assumption) | rw [List.length_set] | assumption)), hn, fun k hk => by
        by_cases e : k = S.1.1
        · subst e
          show (if S.1.1 = S.1.1 then nI j else _) = nI (if S.1.1 = S.1.1 then j else _) ∧ (if S.1.1 = S.1.1 then j else _) < 256
          rw [if_pos rfl, if_pos rfl]
          exact ⟨rfl, by omega⟩
        · show (if k = S.1.1 then nI j else _) = nI (if k = S.1.1 then j else _) ∧ (if k = S.1.1 then j else _) < 256
          rw [if_neg e, if_neg e]
          exact htx k (by have hk' : k < S.1.1 + 1 := hk; omega)⟩, ⟨F, (by repeat (first | with_reducible assumption | refine ex_eq ?_ | refine ex_ne ?_ (by omega) | exact ex_lt (by with_reducible assumption) | rw [List.length_set] | assumption)), hfl⟩, ⟨IF, IL, IS, (by repeat (first | with_reducible assumption | refine ex_eq ?_ | refine ex_ne ?_ (by omega) | exact ex_lt (by with_reducible assumption) | rw [List.length_set] | assumption)), (by repeat (first | with_reducible assumption | refine ex_eq ?_ | refine ex_ne ?_ (by omega) | exact ex_lt (by with_reducible assumption) | rw [List.length_set] | assumption)), (by repeat (first | with_reducible assumption | refine ex_eq ?_ | refine ex_ne ?_ (by omega) | exact ex_lt (by with_reducible assumption) | rw [List.length_set] | assumption)), him⟩, ⟨BX, BY, BG, (by repeat (first | with_reducible assumption | refine ex_eq ?_ | refine ex_ne ?_ (by omega) | exact ex_lt (by with_reducible assumption) | rw [List.length_set] | assumption)), (by repeat (first | with_reducible assumption | refine ex_eq ?_ | refine ex_ne ?_ (by omega) | exact ex_lt (by with_reducible assumption) | rw [List.length_set] | assumption)), (by repeat (first | with_reducible assumption | refine ex_eq ?_ | refine ex_ne ?_ (by omega) | exact ex_lt (by with_reducible assumption) | rw [List.length_set] | assumption)), hbn, hbk⟩, (by repeat (first | with_reducible assumption | refine ex_eq ?_ | refine ex_ne ?_ (by omega) | exact ex_lt (by with_reducible assumption) | rw [List.length_set] | assumption)), (by repeat (first | with_reducible assumption | refine ex_eq ?_ | refine ex_ne ?_ (by omega) | exact ex_lt (by with_reducible assumption) | rw [List.length_set] | assumption))⟩
    · have ef : f_feed S (nI j) = (-1000000004, S) := by
        unfold f_feed
        rw [cif_y hx, cif_n hn]
      refine ex_meth [(0, .ref 86), (1, .int (nI j))] rfl rfl rfl (fun b => Nat.le_of_ble_eq_true rfl) ?_
      refine ew_iload_n (M := mX10_feed) dX10_feed_0 rfl ?_
      refine ew_i2l (M := mX10_feed) dX10_feed_1 ?_
      refine ew_lconst (M := mX10_feed) dX10_feed_2 (v := 0) (by decide) ?_
      refine ew_ldc2 (M := mX10_feed) dX10_feed_3 kX10_108 ?_
      refine ew_callS (M := mX10_feed) dX10_feed_6 vX10_58 (ms_in_y (l := nI 0) (g := nI 255) (by decide) (by decide) hx.1 hx.2) rfl (Nat.le_of_ble_eq_true rfl) ⟨Nat.le_refl _, Nat.le_refl _⟩ rfl (fun H6 r6 q6 => ?_)
      obtain ⟨rfl, rfl⟩ := q6
      refine ew_if_ne (M := mX10_feed) (tgt := 15) dX10_feed_9 rfl (fun _ => ?_) (fun h => absurd h (by decide))
      refine ew_aload_n (M := mX10_feed) dX10_feed_15 rfl (Or.inr (Or.inl ⟨_, rfl⟩)) ?_
      refine ew_get (M := mX10_feed) dX10_feed_16 fX10_98 (by repeat (first | with_reducible assumption | refine ex_eq ?_ | refine ex_ne ?_ (by omega) | exact ex_lt (by with_reducible assumption) | rw [List.length_set] | assumption)) (by rfl) ?_
      refine ew_sipush (M := mX10_feed) dX10_feed_19 (v := nI 180) (by decide) ?_
      refine ew_icmp_ne (M := mX10_feed) (tgt := 28) dX10_feed_22 rfl (fun h => absurd (by rw [show S.1.1 = 180 by omega]) h) (fun _ => ?_)
      refine ew_ldc (M := mX10_feed) dX10_feed_25 kX10_111 ?_
      refine ew_iret (M := mX10_feed) dX10_feed_27 rfl (by first | rfl | decide) (Nat.le_refl _) (Nat.le_refl _) ?_
      exact ⟨by rw [ef], ex_ch.rf, by rw [ef]; exact ⟨_, _, _, _, hS⟩⟩
  · have ef : f_feed S x = (-1000000002, S) := by
      unfold f_feed
      rw [cif_n hx]
    refine ex_meth [(0, .ref 86), (1, .int x)] rfl rfl rfl (fun b => Nat.le_of_ble_eq_true rfl) ?_
    refine ew_iload_n (M := mX10_feed) dX10_feed_0 rfl ?_
    refine ew_i2l (M := mX10_feed) dX10_feed_1 ?_
    refine ew_lconst (M := mX10_feed) dX10_feed_2 (v := 0) (by decide) ?_
    refine ew_ldc2 (M := mX10_feed) dX10_feed_3 kX10_108 ?_
    refine ew_callS (M := mX10_feed) dX10_feed_6 vX10_58 (ms_in_n (l := nI 0) (g := nI 255) (by decide) (by decide) hx) rfl (Nat.le_of_ble_eq_true rfl) ⟨Nat.le_refl _, Nat.le_refl _⟩ rfl (fun H6 r6 q6 => ?_)
    obtain ⟨rfl, rfl⟩ := q6
    refine ew_if_ne (M := mX10_feed) (tgt := 15) dX10_feed_9 rfl (fun h => absurd (by decide) h) (fun _ => ?_)
    refine ew_ldc (M := mX10_feed) dX10_feed_12 kX10_110 ?_
    refine ew_iret (M := mX10_feed) dX10_feed_14 rfl (by first | rfl | decide) (Nat.le_refl _) (Nat.le_refl _) ?_
    exact ⟨by rw [ef], ex_ch.rf, by rw [ef]; exact ⟨_, _, _, _, hS⟩⟩
theorem ms_fill {d : Nat} {H : ex_H} {S : SS} (hS : mo_is H S) (g : Int32) : ex_Met mX10_fill (d + 1) 0 0 H [.ref 86, .int g] (fun H' r => r = some (.int (f_fill S g).1) ∧ ex_ch H H' mL ∧ mo_is H' (f_fill S g).2) := by
  obtain ⟨R, mn, C, N, hS⟩ := hS
  obtain ⟨a1, ⟨hfi, hsd, hkp⟩, ⟨W, a2, hw0, ⟨hcn, hwh⟩, hwi⟩, ⟨T, a3, htn, htx⟩, ⟨F, a4, hfl⟩, ⟨IF, IL, IS, a5, a6, a7, him⟩, ⟨BX, BY, BG, a8, a9, a10, hbn, hbk⟩, a11, a12⟩ := id hS
  by_cases hx : nI 0 ≤ g ∧ g ≤ nI 255
  · obtain ⟨j, hj, rfl⟩ := nI_of3 (by decide) hx
    have ef : f_fill S (nI j) = (nI S.2.2.1.2.2.1, s_now S (S.2.2.1.1, S.2.2.1.2.1, j, S.2.2.1.2.2.2)) := by
      unfold f_fill
      rw [cif_y hx, nI_clamp (by omega)]
    refine ex_meth [(0, .ref 86), (1, .int (nI j))] rfl rfl rfl (fun b => Nat.le_of_ble_eq_true rfl) ?_
    refine ew_iload_n (M := mX10_fill) dX10_fill_0 rfl ?_
    refine ew_i2l (M := mX10_fill) dX10_fill_1 ?_
    refine ew_lconst (M := mX10_fill) dX10_fill_2 (v := 0) (by decide) ?_
    refine ew_ldc2 (M := mX10_fill) dX10_fill_3 kX10_108 ?_
    refine ew_callS (M := mX10_fill) dX10_fill_6 vX10_58 (ms_in_y (l := nI 0) (g := nI 255) (by decide) (by decide) hx.1 hx.2) rfl (Nat.le_of_ble_eq_true rfl) ⟨Nat.le_refl _, Nat.le_refl _⟩ rfl (fun H6 r6 q6 => ?_)
    obtain ⟨rfl, rfl⟩ := q6
    refine ew_if_ne (M := mX10_fill) (tgt := 15) dX10_fill_9 rfl (fun _ => ?_) (fun h => absurd h (by decide))
    refine ew_aload_n (M := mX10_fill) dX10_fill_15 rfl (Or.inr (Or.inl ⟨_, rfl⟩)) ?_
    refine ew_get (M := mX10_fill) dX10_fill_16 fX10_127 (by repeat (first | with_reducible assumption | refine ex_eq ?_ | refine ex_ne ?_ (by omega) | exact ex_lt (by with_reducible assumption) | rw [List.length_set] | assumption)) (by rfl) ?_
    refine ew_istore_n (M := mX10_fill) dX10_fill_19 (by decide) rfl ?_
    refine ew_aload_n (M := mX10_fill) dX10_fill_20 rfl (Or.inr (Or.inl ⟨_, rfl⟩)) ?_
    refine ew_iload_n (M := mX10_fill) dX10_fill_21 rfl ?_
    refine ew_put (M := mX10_fill) dX10_fill_22 fX10_127 (by repeat (first | with_reducible assumption | refine ex_eq ?_ | refine ex_ne ?_ (by omega) | exact ex_lt (by with_reducible assumption) | rw [List.length_set] | assumption)) (by exact Nat.le_of_ble_eq_true rfl) ⟨rfl, rfl, fun _ h => by cases h⟩ ?_
    refine ew_iload_n (M := mX10_fill) dX10_fill_25 rfl ?_
    refine ew_iret (M := mX10_fill) dX10_fill_26 rfl (by first | rfl | decide) (Nat.le_refl _) (Nat.le_refl _) ?_
    refine ⟨by rw [ef], ex_ch.rf.set (by decide), ?_⟩
    rw [ef]
    exact ⟨R, mn, C, N, (by repeat (first | with_reducible assumption | refine ex_eq ?_ | refine ex_ne ?_ (by omega) | exact ex_lt (by with_reducible assumption) | rw [List.length_set] | assumption)), ⟨by show j < 256; omega, hsd, hkp⟩, ⟨W, (by repeat (first | with_reducible assumption | refine ex_eq ?_ | refine ex_ne ?_ (by omega) | exact ex_lt (by with_reducible assumption) | rw [List.length_set] | assumption)), hw0, ⟨hcn, hwh⟩, hwi⟩, ⟨T, (by repeat (first | with_reducible assumption | refine ex_eq ?_ | refine ex_ne ?_ (by omega) | exact ex_lt (by with_reducible assumption) | rw [List.length_set] | assumption)), htn, htx⟩, ⟨F, (by repeat (first | with_reducible assumption | refine ex_eq ?_ | refine ex_ne ?_ (by omega) | exact ex_lt (by with_reducible assumption) | rw [List.length_set] | assumption)), hfl⟩, ⟨IF, IL, IS, (by repeat (first | with_reducible assumption | refine ex_eq ?_ | refine ex_ne ?_ (by omega) | exact ex_lt (by with_reducible assumption) | rw [List.length_set] | assumption)), (by repeat (first | with_reducible assumption | refine ex_eq ?_ | refine ex_ne ?_ (by omega) | exact ex_lt (by with_reducible assumption) | rw [List.length_set] | assumption)), (by repeat (first | with_reducible assumption | refine ex_eq ?_ | refine ex_ne ?_ (by omega) | exact ex_lt (by with_reducible assumption) | rw [List.length_set] | assumption)), him⟩, ⟨BX, BY, BG, (by repeat (first | with_reducible assumption | refine ex_eq ?_ | refine ex_ne ?_ (by omega) | exact ex_lt (by with_reducible assumption) | rw [List.length_set] | assumption)), (by repeat (first | with_reducible assumption | refine ex_eq ?_ | refine ex_ne ?_ (by omega) | exact ex_lt (by with_reducible assumption) | rw [List.length_set] | assumption)), (by repeat (first | with_reducible assumption | refine ex_eq ?_ | refine ex_ne ?_ (by omega) | exact ex_lt (by with_reducible assumption) | rw [List.length_set] | assumption)), hbn, hbk⟩, (by repeat (first | with_reducible assumption | refine ex_eq ?_ | refine ex_ne ?_ (by omega) | exact ex_lt (by with_reducible assumption) | rw [List.length_set] | assumption)), (by repeat (first | with_reducible assumption | refine ex_eq ?_ | refine ex_ne ?_ (by omega) | exact ex_lt (by with_reducible assumption) | rw [List.length_set] | assumption))⟩
  · have ef : f_fill S g = (-1000000002, S) := by
      unfold f_fill
      rw [cif_n hx]
    refine ex_meth [(0, .ref 86), (1, .int g)] rfl rfl rfl (fun b => Nat.le_of_ble_eq_true rfl) ?_
    refine ew_iload_n (M := mX10_fill) dX10_fill_0 rfl ?_
    refine ew_i2l (M := mX10_fill) dX10_fill_1 ?_
    refine ew_lconst (M := mX10_fill) dX10_fill_2 (v := 0) (by decide) ?_
    refine ew_ldc2 (M := mX10_fill) dX10_fill_3 kX10_108 ?_
    refine ew_callS (M := mX10_fill) dX10_fill_6 vX10_58 (ms_in_n (l := nI 0) (g := nI 255) (by decide) (by decide) hx) rfl (Nat.le_of_ble_eq_true rfl) ⟨Nat.le_refl _, Nat.le_refl _⟩ rfl (fun H6 r6 q6 => ?_)
    obtain ⟨rfl, rfl⟩ := q6
    refine ew_if_ne (M := mX10_fill) (tgt := 15) dX10_fill_9 rfl (fun h => absurd (by decide) h) (fun _ => ?_)
    refine ew_ldc (M := mX10_fill) dX10_fill_12 kX10_110 ?_
    refine ew_iret (M := mX10_fill) dX10_fill_14 rfl (by first | rfl | decide) (Nat.le_refl _) (Nat.le_refl _) ?_
    exact ⟨by rw [ef], ex_ch.rf, by rw [ef]; exact ⟨_, _, _, _, hS⟩⟩
theorem ms_seed {d : Nat} {H : ex_H} {S : SS} (hS : mo_is H S) (v : Int32) : ex_Met mX10_seed d 0 0 H [.ref 86, .int v] (fun H' r => r = some (.int (f_seed S v).1) ∧ ex_ch H H' mL ∧ mo_is H' (f_seed S v).2) := by
  obtain ⟨R, mn, C, N, hS⟩ := hS
  obtain ⟨a1, ⟨hfi, hsd, hkp⟩, ⟨W, a2, hw0, ⟨hcn, hwh⟩, hwi⟩, ⟨T, a3, htn, htx⟩, ⟨F, a4, hfl⟩, ⟨IF, IL, IS, a5, a6, a7, him⟩, ⟨BX, BY, BG, a8, a9, a10, hbn, hbk⟩, a11, a12⟩ := id hS
  by_cases hx : 0 ≤ v
  · obtain ⟨j, hj, rfl⟩ := nI_of (Int32.not_lt.mpr hx)
    have ef : f_seed S (nI j) = (nI S.2.2.1.2.2.2, s_now S (S.2.2.1.1, S.2.2.1.2.1, S.2.2.1.2.2.1, j)) := by
      unfold f_seed
      rw [cif_y hx, nI_clamp hj]
    refine ex_meth [(0, .ref 86), (1, .int (nI j))] rfl rfl rfl (fun b => Nat.le_of_ble_eq_true rfl) ?_
    refine ew_iload_n (M := mX10_seed) dX10_seed_0 rfl ?_
    refine ew_if_ge (M := mX10_seed) (tgt := 7) dX10_seed_1 rfl (fun _ => ?_) (fun h => absurd hx h)
    refine ew_aload_n (M := mX10_seed) dX10_seed_7 rfl (Or.inr (Or.inl ⟨_, rfl⟩)) ?_
    refine ew_get (M := mX10_seed) dX10_seed_8 fX10_204 (by repeat (first | with_reducible assumption | refine ex_eq ?_ | refine ex_ne ?_ (by omega) | exact ex_lt (by with_reducible assumption) | rw [List.length_set] | assumption)) (by rfl) ?_
    refine ew_istore_n (M := mX10_seed) dX10_seed_11 (by decide) rfl ?_
    refine ew_aload_n (M := mX10_seed) dX10_seed_12 rfl (Or.inr (Or.inl ⟨_, rfl⟩)) ?_
    refine ew_iload_n (M := mX10_seed) dX10_seed_13 rfl ?_
    refine ew_put (M := mX10_seed) dX10_seed_14 fX10_204 (by repeat (first | with_reducible assumption | refine ex_eq ?_ | refine ex_ne ?_ (by omega) | exact ex_lt (by with_reducible assumption) | rw [List.length_set] | assumption)) (by exact Nat.le_of_ble_eq_true rfl) ⟨rfl, rfl, fun _ h => by cases h⟩ ?_
    refine ew_iload_n (M := mX10_seed) dX10_seed_17 rfl ?_
    refine ew_iret (M := mX10_seed) dX10_seed_18 rfl (by first | rfl | decide) (Nat.le_refl _) (Nat.le_refl _) ?_
    refine ⟨by rw [ef], ex_ch.rf.set (by decide), ?_⟩
    rw [ef]
    exact ⟨R, mn, C, N, (by repeat (first | with_reducible assumption | refine ex_eq ?_ | refine ex_ne ?_ (by omega) | exact ex_lt (by with_reducible assumption) | rw [List.length_set] | assumption)), ⟨hfi, hj, hkp⟩, ⟨W, (by repeat (first | with_reducible assumption | refine ex_eq ?_ | refine ex_ne ?_ (by omega) | exact ex_lt (by with_reducible assumption) | rw [List.length_set] | assumption)), hw0, ⟨hcn, hwh⟩, hwi⟩, ⟨T, (by repeat (first | with_reducible assumption | refine ex_eq ?_ | refine ex_ne ?_ (by omega) | exact ex_lt (by with_reducible assumption) | rw [List.length_set] | assumption)), htn, htx⟩, ⟨F, (by repeat (first | with_reducible assumption | refine ex_eq ?_ | refine ex_ne ?_ (by omega) | exact ex_lt (by with_reducible assumption) | rw [List.length_set] | assumption)), hfl⟩, ⟨IF, IL, IS, (by repeat (first | with_reducible assumption | refine ex_eq ?_ | refine ex_ne ?_ (by omega) | exact ex_lt (by with_reducible assumption) | rw [List.length_set] | assumption)), (by repeat (first | with_reducible assumption | refine ex_eq ?_ | refine ex_ne ?_ (by omega) | exact ex_lt (by with_reducible assumption) | rw [List.length_set] | assumption)), (by repeat (first | with_reducible assumption | refine ex_eq ?_ | refine ex_ne ?_ (by omega) | exact ex_lt (by with_reducible assumption) | rw [List.length_set] | assumption)), him⟩, ⟨BX, BY, BG, (by repeat (first | with_reducible assumption | refine ex_eq ?_ | refine ex_ne ?_ (by omega) | exact ex_lt (by with_reducible assumption) | rw [List.length_set] | assumption)), (by repeat (first | with_reducible assumption | refine ex_eq ?_ | refine ex_ne ?_ (by omega) | exact ex_lt (by with_reducible assumption) | rw [List.length_set] | assumption)), (by repeat (first | with_reducible assumption | refine ex_eq ?_ | refine ex_ne ?_ (by omega) | exact ex_lt (by with_reducible assumption) | rw [List.length_set] | assumption)), hbn, hbk⟩, (by repeat (first | with_reducible assumption | refine ex_eq ?_ | refine ex_ne ?_ (by omega) | exact ex_lt (by with_reducible assumption) | rw [List.length_set] | assumption)), (by repeat (first | with_reducible assumption | refine ex_eq ?_ | refine ex_ne ?_ (by omega) | exact ex_lt (by with_reducible assumption) | rw [List.length_set] | assumption))⟩
  · have ef : f_seed S v = (-1000000002, S) := by
      unfold f_seed
      rw [cif_n hx]
    refine ex_meth [(0, .ref 86), (1, .int v)] rfl rfl rfl (fun b => Nat.le_of_ble_eq_true rfl) ?_
    refine ew_iload_n (M := mX10_seed) dX10_seed_0 rfl ?_
    refine ew_if_ge (M := mX10_seed) (tgt := 7) dX10_seed_1 rfl (fun h => absurd h hx) (fun _ => ?_)
    refine ew_ldc (M := mX10_seed) dX10_seed_4 kX10_110 ?_
    refine ew_iret (M := mX10_seed) dX10_seed_6 rfl (by first | rfl | decide) (Nat.le_refl _) (Nat.le_refl _) ?_
    exact ⟨by rw [ef], ex_ch.rf, by rw [ef]; exact ⟨_, _, _, _, hS⟩⟩
theorem ms_tear {d : Nat} {H : ex_H} {S : SS} (hS : mo_is H S)  : ex_Met mX10_tear d 0 0 H [.ref 86] (fun H' r => r = some (.int (f_tear S).1) ∧ ex_ch H H' mL ∧ mo_is H' (f_tear S).2) := by
  obtain ⟨R, mn, C, N, hS⟩ := hS
  obtain ⟨a1, ⟨hfi, hsd, hkp⟩, ⟨W, a2, hw0, ⟨hcn, hwh⟩, hwi⟩, ⟨T, a3, htn, htx⟩, ⟨F, a4, hfl⟩, ⟨IF, IL, IS, a5, a6, a7, him⟩, ⟨BX, BY, BG, a8, a9, a10, hbn, hbk⟩, a11, a12⟩ := id hS
  refine ex_meth [(0, .ref 86)] rfl rfl rfl (fun b => Nat.le_of_ble_eq_true rfl) ?_
  refine ew_aload_n (M := mX10_tear) dX10_tear_0 rfl (Or.inr (Or.inl ⟨_, rfl⟩)) ?_
  refine ew_get (M := mX10_tear) dX10_tear_1 fX10_163 (by repeat (first | with_reducible assumption | refine ex_eq ?_ | refine ex_ne ?_ (by omega) | exact ex_lt (by with_reducible assumption) | rw [List.length_set] | assumption)) (by rfl) ?_
  refine ew_istore_n (M := mX10_tear) dX10_tear_4 (by decide) rfl ?_
  refine ew_aload_n (M := mX10_tear) dX10_tear_5 rfl (Or.inr (Or.inl ⟨_, rfl⟩)) ?_
  refine ew_iconst (M := mX10_tear) dX10_tear_6 (v := nI 0) (by decide) ?_
  refine ew_put (M := mX10_tear) dX10_tear_7 fX10_163 (by repeat (first | with_reducible assumption | refine ex_eq ?_ | refine ex_ne ?_ (by omega) | exact ex_lt (by with_reducible assumption) | rw [List.length_set] | assumption)) (by exact Nat.le_of_ble_eq_true rfl) ⟨rfl, rfl, fun _ h => by cases h⟩ ?_
  refine ew_iload_n (M := mX10_tear) dX10_tear_10 rfl ?_
  refine ew_iret (M := mX10_tear) dX10_tear_11 rfl (by first | rfl | decide) (Nat.le_refl _) (Nat.le_refl _) ?_
  exact ⟨rfl, ex_ch.rf.set (by decide), R, mn, C, N, (by repeat (first | with_reducible assumption | refine ex_eq ?_ | refine ex_ne ?_ (by omega) | exact ex_lt (by with_reducible assumption) | rw [List.length_set] | assumption)), ⟨hfi, hsd, hkp⟩, ⟨W, (by repeat (first | with_reducible assumption | refine ex_eq ?_ | refine ex_ne ?_ (by omega) | exact ex_lt (by with_reducible assumption) | rw [List.length_set] | assumption)), hw0, ⟨hcn, hwh⟩, hwi⟩, ⟨T, (by repeat (first | with_reducible assumption | refine ex_eq ?_ | refine ex_ne ?_ (by omega) | exact ex_lt (by with_reducible assumption) | rw [List.length_set] | assumption)), htn, htx⟩, ⟨F, (by repeat (first | with_reducible assumption | refine ex_eq ?_ | refine ex_ne ?_ (by omega) | exact ex_lt (by with_reducible assumption) | rw [List.length_set] | assumption)), hfl⟩, ⟨IF, IL, IS, (by repeat (first | with_reducible assumption | refine ex_eq ?_ | refine ex_ne ?_ (by omega) | exact ex_lt (by with_reducible assumption) | rw [List.length_set] | assumption)), (by repeat (first | with_reducible assumption | refine ex_eq ?_ | refine ex_ne ?_ (by omega) | exact ex_lt (by with_reducible assumption) | rw [List.length_set] | assumption)), (by repeat (first | with_reducible assumption | refine ex_eq ?_ | refine ex_ne ?_ (by omega) | exact ex_lt (by with_reducible assumption) | rw [List.length_set] | assumption)), him⟩, ⟨BX, BY, BG, (by repeat (first | with_reducible assumption | refine ex_eq ?_ | refine ex_ne ?_ (by omega) | exact ex_lt (by with_reducible assumption) | rw [List.length_set] | assumption)), (by repeat (first | with_reducible assumption | refine ex_eq ?_ | refine ex_ne ?_ (by omega) | exact ex_lt (by with_reducible assumption) | rw [List.length_set] | assumption)), (by repeat (first | with_reducible assumption | refine ex_eq ?_ | refine ex_ne ?_ (by omega) | exact ex_lt (by with_reducible assumption) | rw [List.length_set] | assumption)), Nat.zero_le _, fun k hk => absurd hk (Nat.not_lt_zero _)⟩, (by repeat (first | with_reducible assumption | refine ex_eq ?_ | refine ex_ne ?_ (by omega) | exact ex_lt (by with_reducible assumption) | rw [List.length_set] | assumption)), (by repeat (first | with_reducible assumption | refine ex_eq ?_ | refine ex_ne ?_ (by omega) | exact ex_lt (by with_reducible assumption) | rw [List.length_set] | assumption))⟩
theorem ms_write {d : Nat} {H : ex_H} {S : SS} (hS : mo_is H S) (x y g : Int32) : ex_Met mX10_write (d + 2) 0 0 H [.ref 86, .int x, .int y, .int g] (fun H' r => r = some (.int (f_write S x y g).1) ∧ ex_ch H H' mL ∧ mo_is H' (f_write S x y g).2) := by
  obtain ⟨R, mn, C, N, hS⟩ := hS
  obtain ⟨a1, ⟨hfi, hsd, hkp⟩, ⟨W, a2, hw0, ⟨hcn, hwh⟩, hwi⟩, ⟨T, a3, htn, htx⟩, ⟨F, a4, hfl⟩, ⟨IF, IL, IS, a5, a6, a7, him⟩, ⟨BX, BY, BG, a8, a9, a10, hbn, hbk⟩, a11, a12⟩ := id hS
  obtain ⟨⟨⟨hz1, hz2, hz3, hz4⟩, hgm⟩, hW0, hW1, hWd⟩ := id hw0
  by_cases hx : pi_in S.2.2.1.1.1 S.2.2.1.1.2.1 x y
  · obtain ⟨i, j, rfl, hi, rfl, hj⟩ := id hx
    by_cases hn : S.2.2.2.2.2.2.1 < 20
    · have ef : f_write S (nI i) (nI j) g = (nI (S.2.2.2.2.2.2.1 + 1), s_book S (S.2.2.2.2.2.2.1 + 1, va_up S.2.2.2.2.2.2.2 S.2.2.2.2.2.2.1 (i, j, g))) := by
        unfold f_write
        rw [cif_y hx, cif_y hn, nI_clamp (by omega), nI_clamp (by omega)]
      refine ex_meth [(0, .ref 86), (1, .int (nI i)), (2, .int (nI j)), (3, .int g)] rfl rfl rfl (fun b => Nat.le_of_ble_eq_true rfl) ?_
      refine ew_aload_n (M := mX10_write) dX10_write_0 rfl (Or.inr (Or.inl ⟨_, rfl⟩)) ?_
      refine ew_iload_n (M := mX10_write) dX10_write_1 rfl ?_
      refine ew_iload_n (M := mX10_write) dX10_write_2 rfl ?_
      refine ew_callV (M := mX10_write) dX10_write_3 vX10_140 (by repeat (first | with_reducible assumption | refine ex_eq ?_ | refine ex_ne ?_ (by omega) | exact ex_lt (by with_reducible assumption) | rw [List.length_set] | assumption)) rfl (ms_isDot_y hS hi hj) rfl (Nat.le_of_ble_eq_true rfl) ⟨Nat.le_refl _, Nat.le_refl _⟩ rfl (fun H3 r3 q3 => ?_)
      obtain ⟨rfl, rfl⟩ := q3
      refine ew_if_ne (M := mX10_write) (tgt := 12) dX10_write_6 rfl (fun _ => ?_) (fun h => absurd h (by decide))
      refine ew_aload_n (M := mX10_write) dX10_write_12 rfl (Or.inr (Or.inl ⟨_, rfl⟩)) ?_
      refine ew_get (M := mX10_write) dX10_write_13 fX10_163 (by repeat (first | with_reducible assumption | refine ex_eq ?_ | refine ex_ne ?_ (by omega) | exact ex_lt (by with_reducible assumption) | rw [List.length_set] | assumption)) (by rfl) ?_
      refine ew_bipush (M := mX10_write) dX10_write_16 (v := nI 20) (by decide) ?_
      refine ew_icmp_ne (M := mX10_write) (tgt := 24) dX10_write_18 rfl (fun _ => ?_) (fun h => absurd h (fun e => by rw [nI_eq (by omega) (by decide)] at e; omega))
      refine ew_aload_n (M := mX10_write) dX10_write_24 rfl (Or.inr (Or.inl ⟨_, rfl⟩)) ?_
      refine ew_get (M := mX10_write) dX10_write_25 fX10_32 (by repeat (first | with_reducible assumption | refine ex_eq ?_ | refine ex_ne ?_ (by omega) | exact ex_lt (by with_reducible assumption) | rw [List.length_set] | assumption)) (by rfl) ?_
      refine ew_aload_n (M := mX10_write) dX10_write_28 rfl (Or.inr (Or.inl ⟨_, rfl⟩)) ?_
      refine ew_get (M := mX10_write) dX10_write_29 fX10_163 (by repeat (first | with_reducible assumption | refine ex_eq ?_ | refine ex_ne ?_ (by omega) | exact ex_lt (by with_reducible assumption) | rw [List.length_set] | assumption)) (by rfl) ?_
      refine ew_iload_n (M := mX10_write) dX10_write_32 rfl ?_
      refine ew_iast (M := mX10_write) S.2.2.2.2.2.2.1 dX10_write_33 (by repeat (first | with_reducible assumption | refine ex_eq ?_ | refine ex_ne ?_ (by omega) | exact ex_lt (by with_reducible assumption) | rw [List.length_set] | assumption)) ⟨rfl, hn, by decide⟩ ?_
      refine ew_aload_n (M := mX10_write) dX10_write_34 rfl (Or.inr (Or.inl ⟨_, rfl⟩)) ?_
      refine ew_get (M := mX10_write) dX10_write_35 fX10_35 (by repeat (first | with_reducible assumption | refine ex_eq ?_ | refine ex_ne ?_ (by omega) | exact ex_lt (by with_reducible assumption) | rw [List.length_set] | assumption)) (by rfl) ?_
      refine ew_aload_n (M := mX10_write) dX10_write_38 rfl (Or.inr (Or.inl ⟨_, rfl⟩)) ?_
      refine ew_get (M := mX10_write) dX10_write_39 fX10_163 (by repeat (first | with_reducible assumption | refine ex_eq ?_ | refine ex_ne ?_ (by omega) | exact ex_lt (by with_reducible assumption) | rw [List.length_set] | assumption)) (by rfl) ?_
      refine ew_iload_n (M := mX10_write) dX10_write_42 rfl ?_
      refine ew_iast (M := mX10_write) S.2.2.2.2.2.2.1 dX10_write_43 (by repeat (first | with_reducible assumption | refine ex_eq ?_ | refine ex_ne ?_ (by omega) | exact ex_lt (by with_reducible assumption) | rw [List.length_set] | assumption)) ⟨rfl, hn, by decide⟩ ?_
      refine ew_aload_n (M := mX10_write) dX10_write_44 rfl (Or.inr (Or.inl ⟨_, rfl⟩)) ?_
      refine ew_get (M := mX10_write) dX10_write_45 fX10_38 (by repeat (first | with_reducible assumption | refine ex_eq ?_ | refine ex_ne ?_ (by omega) | exact ex_lt (by with_reducible assumption) | rw [List.length_set] | assumption)) (by rfl) ?_
      refine ew_aload_n (M := mX10_write) dX10_write_48 rfl (Or.inr (Or.inl ⟨_, rfl⟩)) ?_
      refine ew_get (M := mX10_write) dX10_write_49 fX10_163 (by repeat (first | with_reducible assumption | refine ex_eq ?_ | refine ex_ne ?_ (by omega) | exact ex_lt (by with_reducible assumption) | rw [List.length_set] | assumption)) (by rfl) ?_
      refine ew_iload_n (M := mX10_write) dX10_write_52 rfl ?_
      refine ew_iast (M := mX10_write) S.2.2.2.2.2.2.1 dX10_write_53 (by repeat (first | with_reducible assumption | refine ex_eq ?_ | refine ex_ne ?_ (by omega) | exact ex_lt (by with_reducible assumption) | rw [List.length_set] | assumption)) ⟨rfl, hn, by decide⟩ ?_
      refine ew_aload_n (M := mX10_write) dX10_write_54 rfl (Or.inr (Or.inl ⟨_, rfl⟩)) ?_
      refine ew_dup (M := mX10_write) dX10_write_55 rfl ?_
      refine ew_get (M := mX10_write) dX10_write_56 fX10_163 (by repeat (first | with_reducible assumption | refine ex_eq ?_ | refine ex_ne ?_ (by omega) | exact ex_lt (by with_reducible assumption) | rw [List.length_set] | assumption)) (by rfl) ?_
      refine ew_iconst (M := mX10_write) dX10_write_59 (v := nI 1) (by decide) ?_
      refine ew_iadd (M := mX10_write) dX10_write_60 ?_
      rw [nI_add]
      refine ew_put (M := mX10_write) dX10_write_61 fX10_163 (by repeat (first | with_reducible assumption | refine ex_eq ?_ | refine ex_ne ?_ (by omega) | exact ex_lt (by with_reducible assumption) | rw [List.length_set] | assumption)) (by exact Nat.le_of_ble_eq_true rfl) ⟨rfl, rfl, fun _ h => by cases h⟩ ?_
      refine ew_aload_n (M := mX10_write) dX10_write_64 rfl (Or.inr (Or.inl ⟨_, rfl⟩)) ?_
      refine ew_get (M := mX10_write) dX10_write_65 fX10_163 (by repeat (first | with_reducible assumption | refine ex_eq ?_ | refine ex_ne ?_ (by omega) | exact ex_lt (by with_reducible assumption) | rw [List.length_set] | assumption)) (by rfl) ?_
      refine ew_iret (M := mX10_write) dX10_write_68 rfl (by first | rfl | decide) (Nat.le_refl _) (Nat.le_refl _) ?_
      refine ⟨by rw [ef], (((ex_ch.rf.set (by decide)).set (by decide)).set (by decide)).set (by decide), ?_⟩
      rw [ef]
      exact ⟨R, mn, C, N, (by repeat (first | with_reducible assumption | refine ex_eq ?_ | refine ex_ne ?_ (by omega) | exact ex_lt (by with_reducible assumption) | rw [List.length_set] | assumption)), ⟨hfi, hsd, hkp⟩, ⟨W, (by repeat (first | with_reducible assumption | refine ex_eq ?_ | refine ex_ne ?_ (by omega) | exact ex_lt (by with_reducible assumption) | rw [List.length_set] | assumption)), hw0, ⟨hcn, hwh⟩, hwi⟩, ⟨T, (by repeat (first | with_reducible assumption | refine ex_eq ?_ | refine ex_ne ?_ (by omega) | exact ex_lt (by with_reducible assumption) | rw [List.length_set] | assumption)), htn, htx⟩, ⟨F, (by repeat (first | with_reducible assumption | refine ex_eq ?_ | refine ex_ne ?_ (by omega) | exact ex_lt (by with_reducible assumption) | rw [List.length_set] | assumption)), hfl⟩, ⟨IF, IL, IS, (by repeat (first | with_reducible assumption | refine ex_eq ?_ | refine ex_ne ?_ (by omega) | exact ex_lt (by with_reducible assumption) | rw [List.length_set] | assumption)), (by repeat (first | with_reducible assumption | refine ex_eq ?_ | refine ex_ne ?_ (by omega) | exact ex_lt (by with_reducible assumption) | rw [List.length_set] | assumption)), (by repeat (first | with_reducible assumption | refine ex_eq ?_ | refine ex_ne ?_ (by omega) | exact ex_lt (by with_reducible assumption) | rw [List.length_set] | assumption)), him⟩, ⟨upd BX S.2.2.2.2.2.2.1 (nI i), upd BY S.2.2.2.2.2.2.1 (nI j), upd BG S.2.2.2.2.2.2.1 g, (by repeat (first | with_reducible assumption | refine ex_eq ?_ | refine ex_ne ?_ (by omega) | exact ex_lt (by with_reducible assumption) | rw [List.length_set] | assumption)), (by repeat (first | with_reducible assumption | refine ex_eq ?_ | refine ex_ne ?_ (by omega) | exact ex_lt (by with_reducible assumption) | rw [List.length_set] | assumption)), (by repeat (first | with_reducible assumption | refine ex_eq ?_ | refine ex_ne ?_ (by omega) | exact ex_lt (by with_reducible assumption) | rw [List.length_set] | assumption)), hn, fun k hk => by
        by_cases e : k = S.2.2.2.2.2.2.1
        · subst e
          simp only [s_book, upd, va_up, if_true]
          exact ⟨trivial, trivial, trivial, by omega, by omega⟩
        · simp only [s_book, upd, va_up, if_neg e]
          exact hbk k (by have hk' : k < S.2.2.2.2.2.2.1 + 1 := hk; omega)⟩, (by repeat (first | with_reducible assumption | refine ex_eq ?_ | refine ex_ne ?_ (by omega) | exact ex_lt (by with_reducible assumption) | rw [List.length_set] | assumption)), (by repeat (first | with_reducible assumption | refine ex_eq ?_ | refine ex_ne ?_ (by omega) | exact ex_lt (by with_reducible assumption) | rw [List.length_set] | assumption))⟩
    · have ef : f_write S (nI i) (nI j) g = (-1000000004, S) := by
        unfold f_write
        rw [cif_y hx, cif_n hn]
      refine ex_meth [(0, .ref 86), (1, .int (nI i)), (2, .int (nI j)), (3, .int g)] rfl rfl rfl (fun b => Nat.le_of_ble_eq_true rfl) ?_
      refine ew_aload_n (M := mX10_write) dX10_write_0 rfl (Or.inr (Or.inl ⟨_, rfl⟩)) ?_
      refine ew_iload_n (M := mX10_write) dX10_write_1 rfl ?_
      refine ew_iload_n (M := mX10_write) dX10_write_2 rfl ?_
      refine ew_callV (M := mX10_write) dX10_write_3 vX10_140 (by repeat (first | with_reducible assumption | refine ex_eq ?_ | refine ex_ne ?_ (by omega) | exact ex_lt (by with_reducible assumption) | rw [List.length_set] | assumption)) rfl (ms_isDot_y hS hi hj) rfl (Nat.le_of_ble_eq_true rfl) ⟨Nat.le_refl _, Nat.le_refl _⟩ rfl (fun H3 r3 q3 => ?_)
      obtain ⟨rfl, rfl⟩ := q3
      refine ew_if_ne (M := mX10_write) (tgt := 12) dX10_write_6 rfl (fun _ => ?_) (fun h => absurd h (by decide))
      refine ew_aload_n (M := mX10_write) dX10_write_12 rfl (Or.inr (Or.inl ⟨_, rfl⟩)) ?_
      refine ew_get (M := mX10_write) dX10_write_13 fX10_163 (by repeat (first | with_reducible assumption | refine ex_eq ?_ | refine ex_ne ?_ (by omega) | exact ex_lt (by with_reducible assumption) | rw [List.length_set] | assumption)) (by rfl) ?_
      refine ew_bipush (M := mX10_write) dX10_write_16 (v := nI 20) (by decide) ?_
      refine ew_icmp_ne (M := mX10_write) (tgt := 24) dX10_write_18 rfl (fun h => absurd (by rw [show S.2.2.2.2.2.2.1 = 20 by omega]) h) (fun _ => ?_)
      refine ew_ldc (M := mX10_write) dX10_write_21 kX10_111 ?_
      refine ew_iret (M := mX10_write) dX10_write_23 rfl (by first | rfl | decide) (Nat.le_refl _) (Nat.le_refl _) ?_
      exact ⟨by rw [ef], ex_ch.rf, by rw [ef]; exact ⟨_, _, _, _, hS⟩⟩
  · have ef : f_write S x y g = (-1000000001, S) := by
      unfold f_write
      rw [cif_n hx]
    refine ex_meth [(0, .ref 86), (1, .int x), (2, .int y), (3, .int g)] rfl rfl rfl (fun b => Nat.le_of_ble_eq_true rfl) ?_
    refine ew_aload_n (M := mX10_write) dX10_write_0 rfl (Or.inr (Or.inl ⟨_, rfl⟩)) ?_
    refine ew_iload_n (M := mX10_write) dX10_write_1 rfl ?_
    refine ew_iload_n (M := mX10_write) dX10_write_2 rfl ?_
    refine ew_callV (M := mX10_write) dX10_write_3 vX10_140 (by repeat (first | with_reducible assumption | refine ex_eq ?_ | refine ex_ne ?_ (by omega) | exact ex_lt (by with_reducible assumption) | rw [List.length_set] | assumption)) rfl (ms_isDot_n hS hx) rfl (Nat.le_of_ble_eq_true rfl) ⟨Nat.le_refl _, Nat.le_refl _⟩ rfl (fun H3 r3 q3 => ?_)
    obtain ⟨rfl, rfl⟩ := q3
    refine ew_if_ne (M := mX10_write) (tgt := 12) dX10_write_6 rfl (fun h => absurd (by decide) h) (fun _ => ?_)
    refine ew_ldc (M := mX10_write) dX10_write_9 kX10_175 ?_
    refine ew_iret (M := mX10_write) dX10_write_11 rfl (by first | rfl | decide) (Nat.le_refl _) (Nat.le_refl _) ?_
    exact ⟨by rw [ef], ex_ch.rf, by rw [ef]; exact ⟨_, _, _, _, hS⟩⟩
theorem ms_at {d : Nat} {H : ex_H} {S : SS} (hS : mo_is H S) (x y t : Int32) : ex_Met mX10_at (d + 2) 0 0 H [.ref 86, .int x, .int y, .int t] (fun H' r => r = some (.int (f_at S x y t).1) ∧ ex_ch H H' mL ∧ mo_is H' (f_at S x y t).2) := by
  obtain ⟨R, mn, C, N, hS⟩ := hS
  obtain ⟨a1, ⟨hfi, hsd, hkp⟩, ⟨W, a2, hw0, ⟨hcn, hwh⟩, hwi⟩, ⟨T, a3, htn, htx⟩, ⟨F, a4, hfl⟩, ⟨IF, IL, IS, a5, a6, a7, him⟩, ⟨BX, BY, BG, a8, a9, a10, hbn, hbk⟩, a11, a12⟩ := id hS
  obtain ⟨⟨⟨hz1, hz2, hz3, hz4⟩, hgm⟩, hW0, hW1, hWd⟩ := id hw0
  by_cases hx : pi_in S.2.2.1.1.1 S.2.2.1.1.2.1 x y
  · obtain ⟨i, j, rfl, hi, rfl, hj⟩ := id hx
    have hg := hgm _ (pi_lt hi hj)
    by_cases h0 : t = nI 0
    · have ef : f_at S (nI i) (nI j) t = (nI (S.2.2.1.1.2.2.1 (j * S.2.2.1.1.1 + i)), S) := by
        unfold f_at
        rw [cif_y hx, cif_y h0, nI_clamp (by omega), nI_clamp (by omega)]
      refine ex_meth [(0, .ref 86), (1, .int (nI i)), (2, .int (nI j)), (3, .int t)] rfl rfl rfl (fun b => Nat.le_of_ble_eq_true rfl) ?_
      refine ew_aload_n (M := mX10_at) dX10_at_0 rfl (Or.inr (Or.inl ⟨_, rfl⟩)) ?_
      refine ew_iload_n (M := mX10_at) dX10_at_1 rfl ?_
      refine ew_iload_n (M := mX10_at) dX10_at_2 rfl ?_
      refine ew_callV (M := mX10_at) dX10_at_3 vX10_140 (by repeat (first | with_reducible assumption | refine ex_eq ?_ | refine ex_ne ?_ (by omega) | exact ex_lt (by with_reducible assumption) | rw [List.length_set] | assumption)) rfl (ms_isDot_y hS hi hj) rfl (Nat.le_of_ble_eq_true rfl) ⟨Nat.le_refl _, Nat.le_refl _⟩ rfl (fun H3 r3 q3 => ?_)
      obtain ⟨rfl, rfl⟩ := q3
      refine ew_if_ne (M := mX10_at) (tgt := 12) dX10_at_6 rfl (fun _ => ?_) (fun h => absurd h (by decide))
      refine ew_iload_n (M := mX10_at) dX10_at_12 rfl ?_
      refine ew_if_ne (M := mX10_at) (tgt := 25) dX10_at_13 rfl (fun h => absurd h0 h) (fun _ => ?_)
      refine ew_aload_n (M := mX10_at) dX10_at_16 rfl (Or.inr (Or.inl ⟨_, rfl⟩)) ?_
      refine ew_iload_n (M := mX10_at) dX10_at_17 rfl ?_
      refine ew_iload_n (M := mX10_at) dX10_at_18 rfl ?_
      refine ew_callV (M := mX10_at) dX10_at_19 vX10_137 (by repeat (first | with_reducible assumption | refine ex_eq ?_ | refine ex_ne ?_ (by omega) | exact ex_lt (by with_reducible assumption) | rw [List.length_set] | assumption)) rfl (ms_grey hS hi hj) rfl (Nat.le_of_ble_eq_true rfl) ⟨Nat.le_refl _, Nat.le_refl _⟩ rfl (fun H19 r19 q19 => ?_)
      obtain ⟨rfl, rfl⟩ := q19
      refine ew_goto (M := mX10_at) (tgt := 49) dX10_at_22 rfl ?_
      refine ew_iret (M := mX10_at) dX10_at_49 rfl (by first | rfl | decide) (Nat.le_refl _) (Nat.le_refl _) ?_
      exact ⟨by rw [ef], ex_ch.rf, by rw [ef]; exact ⟨_, _, _, _, hS⟩⟩
    · by_cases h1 : t = nI 1
      · have ef : f_at S (nI i) (nI j) t = (nI (S.2.2.1.1.2.2.2 (j * S.2.2.1.1.1 + i)), S) := by
          unfold f_at
          rw [cif_y hx, cif_n h0, cif_y h1, nI_clamp (by omega), nI_clamp (by omega)]
        refine ex_meth [(0, .ref 86), (1, .int (nI i)), (2, .int (nI j)), (3, .int t)] rfl rfl rfl (fun b => Nat.le_of_ble_eq_true rfl) ?_
        refine ew_aload_n (M := mX10_at) dX10_at_0 rfl (Or.inr (Or.inl ⟨_, rfl⟩)) ?_
        refine ew_iload_n (M := mX10_at) dX10_at_1 rfl ?_
        refine ew_iload_n (M := mX10_at) dX10_at_2 rfl ?_
        refine ew_callV (M := mX10_at) dX10_at_3 vX10_140 (by repeat (first | with_reducible assumption | refine ex_eq ?_ | refine ex_ne ?_ (by omega) | exact ex_lt (by with_reducible assumption) | rw [List.length_set] | assumption)) rfl (ms_isDot_y hS hi hj) rfl (Nat.le_of_ble_eq_true rfl) ⟨Nat.le_refl _, Nat.le_refl _⟩ rfl (fun H3 r3 q3 => ?_)
        obtain ⟨rfl, rfl⟩ := q3
        refine ew_if_ne (M := mX10_at) (tgt := 12) dX10_at_6 rfl (fun _ => ?_) (fun h => absurd h (by decide))
        refine ew_iload_n (M := mX10_at) dX10_at_12 rfl ?_
        refine ew_if_ne (M := mX10_at) (tgt := 25) dX10_at_13 rfl (fun _ => ?_) (fun h => absurd h h0)
        refine ew_iload_n (M := mX10_at) dX10_at_25 rfl ?_
        refine ew_iconst (M := mX10_at) dX10_at_26 (v := nI 1) (by decide) ?_
        refine ew_icmp_ne (M := mX10_at) (tgt := 47) dX10_at_27 rfl (fun h => absurd h1 h) (fun _ => ?_)
        refine ew_aload_n (M := mX10_at) dX10_at_30 rfl (Or.inr (Or.inl ⟨_, rfl⟩)) ?_
        refine ew_iload_n (M := mX10_at) dX10_at_31 rfl ?_
        refine ew_iload_n (M := mX10_at) dX10_at_32 rfl ?_
        refine ew_callV (M := mX10_at) dX10_at_33 vX10_62 (by repeat (first | with_reducible assumption | refine ex_eq ?_ | refine ex_ne ?_ (by omega) | exact ex_lt (by with_reducible assumption) | rw [List.length_set] | assumption)) rfl (ms_isMasked hS hi hj) rfl (Nat.le_of_ble_eq_true rfl) ⟨Nat.le_refl _, Nat.le_refl _⟩ rfl (fun H33 r33 q33 => ?_)
        obtain ⟨rfl, rfl⟩ := q33
        refine ew_if_eq (M := mX10_at) (tgt := 43) dX10_at_36 rfl (fun c36 => ?_) (fun c36 => ?_)
        · rw [nI_z (by omega)] at c36
          rw [c36] at ef
          refine ew_iconst (M := mX10_at) dX10_at_43 (v := nI 0) (by decide) ?_
          refine ew_goto (M := mX10_at) (tgt := 49) dX10_at_44 rfl ?_
          refine ew_iret (M := mX10_at) dX10_at_49 rfl (by first | rfl | decide) (Nat.le_refl _) (Nat.le_refl _) ?_
          exact ⟨by rw [ef], ex_ch.rf, by rw [ef]; exact ⟨_, _, _, _, hS⟩⟩
        · rw [nI_z (by omega)] at c36
          rw [show S.2.2.1.1.2.2.2 (j * S.2.2.1.1.1 + i) = 1 by omega] at ef
          refine ew_iconst (M := mX10_at) dX10_at_39 (v := nI 1) (by decide) ?_
          refine ew_goto (M := mX10_at) (tgt := 49) dX10_at_40 rfl ?_
          refine ew_iret (M := mX10_at) dX10_at_49 rfl (by first | rfl | decide) (Nat.le_refl _) (Nat.le_refl _) ?_
          exact ⟨by rw [ef], ex_ch.rf, by rw [ef]; exact ⟨_, _, _, _, hS⟩⟩
      · have ef : f_at S (nI i) (nI j) t = (-1000000002, S) := by
          unfold f_at
          rw [cif_y hx, cif_n h0, cif_n h1]
        refine ex_meth [(0, .ref 86), (1, .int (nI i)), (2, .int (nI j)), (3, .int t)] rfl rfl rfl (fun b => Nat.le_of_ble_eq_true rfl) ?_
        refine ew_aload_n (M := mX10_at) dX10_at_0 rfl (Or.inr (Or.inl ⟨_, rfl⟩)) ?_
        refine ew_iload_n (M := mX10_at) dX10_at_1 rfl ?_
        refine ew_iload_n (M := mX10_at) dX10_at_2 rfl ?_
        refine ew_callV (M := mX10_at) dX10_at_3 vX10_140 (by repeat (first | with_reducible assumption | refine ex_eq ?_ | refine ex_ne ?_ (by omega) | exact ex_lt (by with_reducible assumption) | rw [List.length_set] | assumption)) rfl (ms_isDot_y hS hi hj) rfl (Nat.le_of_ble_eq_true rfl) ⟨Nat.le_refl _, Nat.le_refl _⟩ rfl (fun H3 r3 q3 => ?_)
        obtain ⟨rfl, rfl⟩ := q3
        refine ew_if_ne (M := mX10_at) (tgt := 12) dX10_at_6 rfl (fun _ => ?_) (fun h => absurd h (by decide))
        refine ew_iload_n (M := mX10_at) dX10_at_12 rfl ?_
        refine ew_if_ne (M := mX10_at) (tgt := 25) dX10_at_13 rfl (fun _ => ?_) (fun h => absurd h h0)
        refine ew_iload_n (M := mX10_at) dX10_at_25 rfl ?_
        refine ew_iconst (M := mX10_at) dX10_at_26 (v := nI 1) (by decide) ?_
        refine ew_icmp_ne (M := mX10_at) (tgt := 47) dX10_at_27 rfl (fun _ => ?_) (fun h => absurd h h1)
        refine ew_ldc (M := mX10_at) dX10_at_47 kX10_110 ?_
        refine ew_iret (M := mX10_at) dX10_at_49 rfl (by first | rfl | decide) (Nat.le_refl _) (Nat.le_refl _) ?_
        exact ⟨by rw [ef], ex_ch.rf, by rw [ef]; exact ⟨_, _, _, _, hS⟩⟩
  · have ef : f_at S x y t = (-1000000001, S) := by
      unfold f_at
      rw [cif_n hx]
    refine ex_meth [(0, .ref 86), (1, .int x), (2, .int y), (3, .int t)] rfl rfl rfl (fun b => Nat.le_of_ble_eq_true rfl) ?_
    refine ew_aload_n (M := mX10_at) dX10_at_0 rfl (Or.inr (Or.inl ⟨_, rfl⟩)) ?_
    refine ew_iload_n (M := mX10_at) dX10_at_1 rfl ?_
    refine ew_iload_n (M := mX10_at) dX10_at_2 rfl ?_
    refine ew_callV (M := mX10_at) dX10_at_3 vX10_140 (by repeat (first | with_reducible assumption | refine ex_eq ?_ | refine ex_ne ?_ (by omega) | exact ex_lt (by with_reducible assumption) | rw [List.length_set] | assumption)) rfl (ms_isDot_n hS hx) rfl (Nat.le_of_ble_eq_true rfl) ⟨Nat.le_refl _, Nat.le_refl _⟩ rfl (fun H3 r3 q3 => ?_)
    obtain ⟨rfl, rfl⟩ := q3
    refine ew_if_ne (M := mX10_at) (tgt := 12) dX10_at_6 rfl (fun h => absurd (by decide) h) (fun _ => ?_)
    refine ew_ldc (M := mX10_at) dX10_at_9 kX10_175 ?_
    refine ew_iret (M := mX10_at) dX10_at_11 rfl (by first | rfl | decide) (Nat.le_refl _) (Nat.le_refl _) ?_
    exact ⟨by rw [ef], ex_ch.rf, by rw [ef]; exact ⟨_, _, _, _, hS⟩⟩
