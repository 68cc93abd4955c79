def unW (W : Nat → Int32) (n t : Nat) : Nat → Int32 := fun i => if i < 82 * t then W (i + 82 * n) else W i
theorem unW_0 (W : Nat → Int32) (n : Nat) : unW W n 0 = W := by
  funext i
  exact if_neg (by omega)
theorem unW_s (W : Nat → Int32) {n t : Nat} (hn : 1 ≤ n) : cpW (unW W n t) (82 * (t + n)) (82 * t) 82 = unW W n (t + 1) := by
  funext i
  simp only [cpW, unW]
  by_cases e : 82 * t ≤ i ∧ i < 82 * t + 82
  · rw [if_pos e, if_neg (by omega), if_pos (by omega)]
    congr 1
    omega
  · rw [if_neg e]
    by_cases h : i < 82 * t
    · rw [if_pos h, if_pos (by omega)]
    · rw [if_neg h, if_neg (by omega)]
theorem mww_undo {W : Nat → Int32} {P : PT} {cnt : Nat} {hs : Nat → PT} {kp : Nat → Nat} {im : Nat → ST} (h : mww W P cnt hs kp im) {n : Nat} (hn : 1 ≤ n) (hn2 : n ≤ cnt) : mww (unW W n (17 - n)) (hs (cnt - n)) (cnt - n) hs kp im := by
  obtain ⟨h1, ⟨h2, h3⟩, h4⟩ := h
  have hc : ∀ o o' i, i < 82 → o + 82 ≤ 82 * (17 - n) → o' = o + 82 * n → unW W n (17 - n) (o + i) = W (o' + i) := fun o o' i hi ho e => by
    unfold unW
    rw [if_pos (by omega), e]
    congr 1
    omega
  refine ⟨?_, ⟨by omega, fun k hk => ?_⟩, fun i hi hk => (h4 i hi hk).cg (fun q hq => if_neg (by omega))⟩
  · have e := h3 (n - 1) (by omega)
    rw [show cnt - 1 - (n - 1) = cnt - n by omega] at e
    exact e.cg (fun i hi => hc 0 _ i hi (by omega) (by omega))
  · have e := h3 (k + n) (by omega)
    rw [show cnt - 1 - (k + n) = cnt - n - 1 - k by omega] at e
    exact e.cg (fun i hi => hc _ _ i hi (by omega) (by omega))
theorem ms_undo {d : Nat} {H : ex_H} {S : SS} (hS : mo_is H S) (n : Int32) : ex_Met mX10_undo (d + 1) 0 0 H [.ref 86, .int n] (fun H' r => r = some (.int (f_undo S n).1) ∧ ex_ch H H' mL ∧ mo_is H' (f_undo S n).2) := by
  obtain ⟨R, mn, C, N, hS⟩ := hS
  obtain ⟨a1, ⟨hfi, hsd, hkp⟩, ⟨W, a2, hw0, ⟨hcn, hwh⟩, hwi⟩, ⟨T, a3, htn, htx⟩, ⟨F, a4, hfl⟩, ⟨IF, IL, IS, a5, a6, a7, him⟩, ⟨BX, BY, BG, a8, a9, a10, hbn, hbk⟩, a11, a12⟩ := id hS
  by_cases hx : nI 1 ≤ n ∧ n ≤ nI 16
  · obtain ⟨n, hn1, hn2, rfl⟩ := nI_of4 (by decide) hx
    by_cases hk : n ≤ S.2.2.2.2.2.1.1
    · have ef : f_undo S (nI n) = (nI (S.2.2.2.2.2.1.1 - n), s_pic (s_hist S (S.2.2.2.2.2.1.1 - n, S.2.2.2.2.2.1.2)) (S.2.2.2.2.2.1.2 (S.2.2.2.2.2.1.1 - n))) := by
        unfold f_undo
        rw [cif_y hx, cif_y (nI_le hk (by omega)), nI_clamp (by omega)]
      refine ex_meth [(0, .ref 86), (1, .int (nI n))] rfl rfl rfl (fun b => Nat.le_of_ble_eq_true rfl) ?_
      refine ew_iload_n (M := mX10_undo) dX10_undo_0 rfl ?_
      refine ew_i2l (M := mX10_undo) dX10_undo_1 ?_
      refine ew_lconst (M := mX10_undo) dX10_undo_2 (v := 1) (by decide) ?_
      refine ew_ldc2 (M := mX10_undo) dX10_undo_3 kX10_219 ?_
      refine ew_callS (M := mX10_undo) dX10_undo_6 vX10_58 (ms_in_y (l := nI 1) (g := nI 16) (by decide) (by decide) hx.1 hx.2) rfl (Nat.le_of_ble_eq_true rfl) ⟨Nat.le_refl _, Nat.le_refl _⟩ rfl (fun H6 r6 q6 => ?_)
      obtain ⟨rfl, rfl⟩ := q6
      refine ew_if_ne (M := mX10_undo) (tgt := 15) dX10_undo_9 rfl (fun _ => ?_) (fun h => absurd h (by decide))
      refine ew_iload_n (M := mX10_undo) dX10_undo_15 rfl ?_
      refine ew_aload_n (M := mX10_undo) dX10_undo_16 rfl (Or.inr (Or.inl ⟨_, rfl⟩)) ?_
      refine ew_get (M := mX10_undo) dX10_undo_17 fX10_51 (by repeat (first | with_reducible assumption | refine ex_eq ?_ | refine ex_ne ?_ (by omega) | exact ex_lt (by with_reducible assumption) | rw [List.length_set] | assumption)) (by rfl) ?_
      refine ew_icmp_le (M := mX10_undo) (tgt := 26) dX10_undo_20 rfl (fun _ => ?_) (fun h => absurd (nI_le hk (by omega)) h)
      refine ew_iconst (M := mX10_undo) dX10_undo_26 (v := nI 0) (by decide) ?_
      refine ew_istore_n (M := mX10_undo) dX10_undo_27 (by decide) rfl ?_
      refine ew_ls [(0, .ref 86), (1, .int (nI n)), (2, .int (nI 0))] ⟨rfl, rfl, rfl, trivial⟩ ?_
      refine nat_down (P := fun t => ∀ H2 : ex_H, ex_ch H H2 [87] → H2[87]? = some (ar .int 1558 (unW W n t)) → ex_W mX10_undo (d + 1) 0 0 _ H2 28 [(0, .ref 86), (1, .int (nI n)), (2, .int (nI t))] [] 0 0) (17 - n) (fun t ht k => ?_) ?_ H ex_ch.rf (by rw [unW_0]; exact a2)
      · intro H2 hc2 b2
        have b1 := hc2.at a1 (by simp)
        refine ew_iload_n (M := mX10_undo) dX10_undo_28 rfl ?_
        refine ew_iload_n (M := mX10_undo) dX10_undo_29 rfl ?_
        refine ew_iadd (M := mX10_undo) dX10_undo_30 ?_
        rw [nI_add]
        refine ew_bipush (M := mX10_undo) dX10_undo_31 (v := nI 16) (by decide) ?_
        refine ew_icmp_gt (M := mX10_undo) (tgt := 56) dX10_undo_33 rfl (fun h => absurd h (nI_nlt (by omega) (by omega))) (fun _ => ?_)
        refine ew_aload_n (M := mX10_undo) dX10_undo_36 rfl (Or.inr (Or.inl ⟨_, rfl⟩)) ?_
        refine ew_bipush (M := mX10_undo) dX10_undo_37 (v := nI 82) (by decide) ?_
        refine ew_iload_n (M := mX10_undo) dX10_undo_39 rfl ?_
        refine ew_iload_n (M := mX10_undo) dX10_undo_40 rfl ?_
        refine ew_iadd (M := mX10_undo) dX10_undo_41 ?_
        rw [nI_add]
        refine ew_imul (M := mX10_undo) dX10_undo_42 ?_
        rw [pk_mul]
        refine ew_bipush (M := mX10_undo) dX10_undo_43 (v := nI 82) (by decide) ?_
        refine ew_iload_n (M := mX10_undo) dX10_undo_45 rfl ?_
        refine ew_imul (M := mX10_undo) dX10_undo_46 ?_
        rw [pk_mul]
        refine ew_callV (M := mX10_undo) dX10_undo_47 vX10_47 (by repeat (first | with_reducible assumption | refine ex_eq ?_ | refine ex_ne ?_ (by omega) | exact ex_lt (by with_reducible assumption) | rw [List.length_set] | assumption)) rfl (ms_copyRow b1 b2 (by omega) (by omega) (by omega)) rfl (Nat.le_of_ble_eq_true rfl) ⟨Nat.le_refl _, Nat.le_refl _⟩ rfl (fun H47 r47 q47 => ?_)
        obtain ⟨rfl, hc3, b3⟩ := q47
        rw [unW_s W hn1] at b3
        refine ew_iinc (M := mX10_undo) dX10_undo_50 rfl (ex_inc t) (by decide) rfl ?_
        refine ew_goto (M := mX10_undo) (tgt := 28) dX10_undo_53 rfl ?_
        refine ew_ls _ ?_ (k _ (hc2.tr hc3 (by simp)) b3)
        exact ⟨rfl, rfl, rfl, trivial⟩
      · intro H2 hc2 b2
        have b1 := hc2.at a1 (by simp)
        have hX : nI S.2.2.2.2.2.1.1 - nI n = nI (S.2.2.2.2.2.1.1 - n) := by
          rw [show S.2.2.2.2.2.1.1 = (S.2.2.2.2.2.1.1 - n) + n by omega, ← nI_add, Int32.add_sub_cancel, show (S.2.2.2.2.2.1.1 - n) + n - n = S.2.2.2.2.2.1.1 - n by omega]
        refine ew_iload_n (M := mX10_undo) dX10_undo_28 rfl ?_
        refine ew_iload_n (M := mX10_undo) dX10_undo_29 rfl ?_
        refine ew_iadd (M := mX10_undo) dX10_undo_30 ?_
        rw [nI_add]
        refine ew_bipush (M := mX10_undo) dX10_undo_31 (v := nI 16) (by decide) ?_
        refine ew_icmp_gt (M := mX10_undo) (tgt := 56) dX10_undo_33 rfl (fun _ => ?_) (fun h => absurd (nI_lt (by omega) (by omega)) h)
        refine ew_aload_n (M := mX10_undo) dX10_undo_56 rfl (Or.inr (Or.inl ⟨_, rfl⟩)) ?_
        refine ew_dup (M := mX10_undo) dX10_undo_57 rfl ?_
        refine ew_get (M := mX10_undo) dX10_undo_58 fX10_51 (by repeat (first | with_reducible assumption | refine ex_eq ?_ | refine ex_ne ?_ (by omega) | exact ex_lt (by with_reducible assumption) | rw [List.length_set] | assumption)) (by rfl) ?_
        refine ew_iload_n (M := mX10_undo) dX10_undo_61 rfl ?_
        refine ew_isub (M := mX10_undo) dX10_undo_62 ?_
        rw [hX]
        refine ew_put (M := mX10_undo) dX10_undo_63 fX10_51 (by repeat (first | with_reducible assumption | refine ex_eq ?_ | refine ex_ne ?_ (by omega) | exact ex_lt (by with_reducible assumption) | rw [List.length_set] | assumption)) (by exact Nat.le_of_ble_eq_true rfl) ⟨rfl, rfl, fun _ h => by cases h⟩ ?_
        refine ew_aload_n (M := mX10_undo) dX10_undo_66 rfl (Or.inr (Or.inl ⟨_, rfl⟩)) ?_
        refine ew_get (M := mX10_undo) dX10_undo_67 fX10_51 (by repeat (first | with_reducible assumption | refine ex_eq ?_ | refine ex_ne ?_ (by omega) | exact ex_lt (by with_reducible assumption) | rw [List.length_set] | assumption)) (by rfl) ?_
        refine ew_iret (M := mX10_undo) dX10_undo_70 rfl (by first | rfl | decide) (Nat.le_refl _) (Nat.le_refl _) ?_
        refine ⟨by rw [ef], (hc2.sub (mL_sub (by decide))).set (by decide), ?_⟩
        rw [ef]
        have b3 := hc2.at a3 (by simp)
        have b4 := hc2.at a4 (by simp)
        have b5 := hc2.at a5 (by simp)
        have b6 := hc2.at a6 (by simp)
        have b7 := hc2.at a7 (by simp)
        have b8 := hc2.at a8 (by simp)
        have b9 := hc2.at a9 (by simp)
        have b10 := hc2.at a10 (by simp)
        have b11 := hc2.at a11 (by simp)
        have b12 := hc2.at a12 (by simp)
        exact ⟨R, mn, C, N, ex_eq (ex_lt b1), ⟨hfi, hsd, hkp⟩, ⟨_, (by repeat (first | with_reducible assumption | refine ex_eq ?_ | refine ex_ne ?_ (by omega) | exact ex_lt (by with_reducible assumption) | rw [List.length_set] | assumption)), mww_undo ⟨hw0, ⟨hcn, hwh⟩, hwi⟩ hn1 hk⟩, ⟨T, (by repeat (first | with_reducible assumption | refine ex_eq ?_ | refine ex_ne ?_ (by omega) | exact ex_lt (by with_reducible assumption) | rw [List.length_set] | assumption)), htn, htx⟩, ⟨F, (by repeat (first | with_reducible assumption | refine ex_eq ?_ | refine ex_ne ?_ (by omega) | exact ex_lt (by with_reducible assumption) | rw [List.length_set] | assumption)), hfl⟩, ⟨IF, IL, IS, (by repeat (first | with_reducible assumption | refine ex_eq ?_ | refine ex_ne ?_ (by omega) | exact ex_lt (by with_reducible assumption) | rw [List.length_set] | assumption)), (by repeat (first | with_reducible assumption | refine ex_eq ?_ | refine ex_ne ?_ (by omega) | exact ex_lt (by with_reducible assumption) | rw [List.length_set] | assumption)), (by repeat (first | with_reducible assumption | refine ex_eq ?_ | refine ex_ne ?_ (by omega) | exact ex_lt (by with_reducible assumption) | rw [List.length_set] | assumption)), him⟩, ⟨BX, BY, BG, (by repeat (first | with_reducible assumption | refine ex_eq ?_ | refine ex_ne ?_ (by omega) | exact ex_lt (by with_reducible assumption) | rw [List.length_set] | assumption)), (by repeat (first | with_reducible assumption | refine ex_eq ?_ | refine ex_ne ?_ (by omega) | exact ex_lt (by with_reducible assumption) | rw [List.length_set] | assumption)), (by repeat (first | with_reducible assumption | refine ex_eq ?_ | refine ex_ne ?_ (by omega) | exact ex_lt (by with_reducible assumption) | rw [List.length_set] | assumption)), hbn, hbk⟩, (by repeat (first | with_reducible assumption | refine ex_eq ?_ | refine ex_ne ?_ (by omega) | exact ex_lt (by with_reducible assumption) | rw [List.length_set] | assumption)), (by repeat (first | with_reducible assumption | refine ex_eq ?_ | refine ex_ne ?_ (by omega) | exact ex_lt (by with_reducible assumption) | rw [List.length_set] | assumption))⟩
    · have ef : f_undo S (nI n) = (-1000000003, S) := by
        unfold f_undo
        rw [cif_y hx, cif_n (fun q => hk ((nI_leI (by omega) (by omega)).mp q))]
      refine ex_meth [(0, .ref 86), (1, .int (nI n))] rfl rfl rfl (fun b => Nat.le_of_ble_eq_true rfl) ?_
      refine ew_iload_n (M := mX10_undo) dX10_undo_0 rfl ?_
      refine ew_i2l (M := mX10_undo) dX10_undo_1 ?_
      refine ew_lconst (M := mX10_undo) dX10_undo_2 (v := 1) (by decide) ?_
      refine ew_ldc2 (M := mX10_undo) dX10_undo_3 kX10_219 ?_
      refine ew_callS (M := mX10_undo) dX10_undo_6 vX10_58 (ms_in_y (l := nI 1) (g := nI 16) (by decide) (by decide) hx.1 hx.2) rfl (Nat.le_of_ble_eq_true rfl) ⟨Nat.le_refl _, Nat.le_refl _⟩ rfl (fun H6 r6 q6 => ?_)
      obtain ⟨rfl, rfl⟩ := q6
      refine ew_if_ne (M := mX10_undo) (tgt := 15) dX10_undo_9 rfl (fun _ => ?_) (fun h => absurd h (by decide))
      refine ew_iload_n (M := mX10_undo) dX10_undo_15 rfl ?_
      refine ew_aload_n (M := mX10_undo) dX10_undo_16 rfl (Or.inr (Or.inl ⟨_, rfl⟩)) ?_
      refine ew_get (M := mX10_undo) dX10_undo_17 fX10_51 (by repeat (first | with_reducible assumption | refine ex_eq ?_ | refine ex_ne ?_ (by omega) | exact ex_lt (by with_reducible assumption) | rw [List.length_set] | assumption)) (by rfl) ?_
      refine ew_icmp_le (M := mX10_undo) (tgt := 26) dX10_undo_20 rfl (fun h => absurd h (nI_ge (by omega) (by omega))) (fun _ => ?_)
      refine ew_ldc (M := mX10_undo) dX10_undo_23 kX10_195 ?_
      refine ew_iret (M := mX10_undo) dX10_undo_25 rfl (by first | rfl | decide) (Nat.le_refl _) (Nat.le_refl _) ?_
      exact ⟨by rw [ef], ex_ch.rf, by rw [ef]; exact ⟨_, _, _, _, hS⟩⟩
  · have ef : f_undo S n = (-1000000002, S) := by
      unfold f_undo
      rw [cif_n hx]
    refine ex_meth [(0, .ref 86), (1, .int n)] rfl rfl rfl (fun b => Nat.le_of_ble_eq_true rfl) ?_
    refine ew_iload_n (M := mX10_undo) dX10_undo_0 rfl ?_
    refine ew_i2l (M := mX10_undo) dX10_undo_1 ?_
    refine ew_lconst (M := mX10_undo) dX10_undo_2 (v := 1) (by decide) ?_
    refine ew_ldc2 (M := mX10_undo) dX10_undo_3 kX10_219 ?_
    refine ew_callS (M := mX10_undo) dX10_undo_6 vX10_58 (ms_in_n (l := nI 1) (g := nI 16) (by decide) (by decide) hx) rfl (Nat.le_of_ble_eq_true rfl) ⟨Nat.le_refl _, Nat.le_refl _⟩ rfl (fun H6 r6 q6 => ?_)
    obtain ⟨rfl, rfl⟩ := q6
    refine ew_if_ne (M := mX10_undo) (tgt := 15) dX10_undo_9 rfl (fun h => absurd (by decide) h) (fun _ => ?_)
    refine ew_ldc (M := mX10_undo) dX10_undo_12 kX10_110 ?_
    refine ew_iret (M := mX10_undo) dX10_undo_14 rfl (by first | rfl | decide) (Nat.le_refl _) (Nat.le_refl _) ?_
    exact ⟨by rw [ef], ex_ch.rf, by rw [ef]; exact ⟨_, _, _, _, hS⟩⟩
theorem kb_at : ∀ a < 2, ∀ b < 2, (nI (a + 2 * b) >>> (nI 0 &&& 31)) &&& nI 1 = nI a ∧ (nI (a + 2 * b) >>> (nI 1 &&& 31)) &&& nI 1 = nI b ∧ nI (a + 2 * b) ||| (nI 1 <<< (nI 0 &&& 31)) = nI (1 + 2 * b) ∧ nI (a + 2 * b) ||| (nI 1 <<< (nI 1 &&& 31)) = nI (a + 2 * 1) := by decide +kernel
theorem ms_isKept {d : Nat} {H : ex_H} {S : SS} {R : Int32 × Int32 × Int32 × Int32} {mn : Int32} {C N : Nat → Int32} (hS : mo_at H S R mn C N) {i : Nat} (hi : i < 2) : ex_Met mX10_isKept d 0 0 H [.ref 86, .int (nI i)] (ex_r H (.int (nI (S.2.2.2.1 i)))) := by
  obtain ⟨a1, ⟨hfi, hsd, hkp⟩, ⟨W, a2, hw0, ⟨hcn, hwh⟩, hwi⟩, ⟨T, a3, htn, htx⟩, ⟨F, a4, hfl⟩, ⟨IF, IL, IS, a5, a6, a7, him⟩, ⟨BX, BY, BG, a8, a9, a10, hbn, hbk⟩, a11, a12⟩ := id hS
  have hb : (nI (S.2.2.2.1 0 + 2 * S.2.2.2.1 1) >>> (nI i &&& 31)) &&& nI 1 = nI (S.2.2.2.1 i) := by
    have h := kb_at _ (hkp 0 (by decide)) _ (hkp 1 (by decide))
    rcases (show i = 0 ∨ i = 1 by omega) with rfl | rfl
    · exact h.1
    · exact h.2.1
  have h2 := hkp i hi
  refine ex_meth [(0, .ref 86), (1, .int (nI i))] rfl rfl rfl (fun b => Nat.le_of_ble_eq_true rfl) ?_
  refine ew_aload_n (M := mX10_isKept) dX10_isKept_0 rfl (Or.inr (Or.inl ⟨_, rfl⟩)) ?_
  refine ew_get (M := mX10_isKept) dX10_isKept_1 fX10_221 (by repeat (first | with_reducible assumption | refine ex_eq ?_ | refine ex_ne ?_ (by omega) | exact ex_lt (by with_reducible assumption) | rw [List.length_set] | assumption)) (by rfl) ?_
  refine ew_iload_n (M := mX10_isKept) dX10_isKept_4 rfl ?_
  refine ew_ishr (M := mX10_isKept) dX10_isKept_5 ?_
  refine ew_iconst (M := mX10_isKept) dX10_isKept_6 (v := nI 1) (by decide) ?_
  refine ew_iand (M := mX10_isKept) dX10_isKept_7 ?_
  rw [hb]
  refine ew_iconst (M := mX10_isKept) dX10_isKept_8 (v := nI 1) (by decide) ?_
  refine ew_icmp_ne (M := mX10_isKept) (tgt := 16) dX10_isKept_9 rfl (fun c9 => ?_) (fun c9 => ?_)
  · rw [nI_eq (by omega) (by decide)] at c9
    refine ew_iconst (M := mX10_isKept) dX10_isKept_16 (v := nI 0) (by decide) ?_
    refine ew_iret (M := mX10_isKept) dX10_isKept_17 rfl (by first | rfl | decide) (Nat.le_refl _) (Nat.le_refl _) ?_
    exact ⟨rfl, by first | rw [show S.2.2.2.1 i = 0 by omega] | rw [show S.2.2.2.1 i = 1 by omega]⟩
  · rw [nI_eq (by omega) (by decide)] at c9
    refine ew_iconst (M := mX10_isKept) dX10_isKept_12 (v := nI 1) (by decide) ?_
    refine ew_goto (M := mX10_isKept) (tgt := 17) dX10_isKept_13 rfl ?_
    refine ew_iret (M := mX10_isKept) dX10_isKept_17 rfl (by first | rfl | decide) (Nat.le_refl _) (Nat.le_refl _) ?_
    exact ⟨rfl, by first | rw [show S.2.2.2.1 i = 0 by omega] | rw [show S.2.2.2.1 i = 1 by omega]⟩
def ifW (G F : Nat → Int32) (o f t : Nat) : Nat → Int32 := fun q => if o ≤ q ∧ q < o + t then F (f + (q - o)) else G q
theorem ifW_0 (G F : Nat → Int32) (o f : Nat) : ifW G F o f 0 = G := by
  funext i
  exact if_neg (by omega)
theorem ifW_s (G F : Nat → Int32) (o f t : Nat) : upd (ifW G F o f t) (o + t) (F (f + t)) = ifW G F o f (t + 1) := by
  funext i
  simp only [upd, ifW]
  by_cases e : i = o + t
  · subst e
    rw [if_pos rfl, if_pos (by omega)]
    congr 1
    omega
  · rw [if_neg e]
    by_cases h : o ≤ i ∧ i < o + t
    · rw [if_pos h, if_pos (by omega)]
    · rw [if_neg h, if_neg (by omega)]
theorem mfl.cg {F G : Nat → Int32} {o o' : Nat} {z : Nat × (Nat → FV)} (h : mfl F o z) (e : ∀ q, q < 31 → G (o' + q) = F (o + q)) : mfl G o' z := by
  obtain ⟨h1, h2, h3⟩ := h
  refine ⟨h1, (e 0 (by decide)).trans h2, fun k hk => ?_⟩
  obtain ⟨⟨g1, g2, g3, g4, g5⟩, g6⟩ := h3 k hk
  exact ⟨⟨(e _ (by omega)).trans g1, (e (1 + 5 * k + 1) (by omega)).trans g2, (e (1 + 5 * k + 2) (by omega)).trans g3, (e (1 + 5 * k + 3) (by omega)).trans g4, (e (1 + 5 * k + 4) (by omega)).trans g5⟩, g6⟩
theorem ms_keep {d : Nat} {H : ex_H} {S : SS} (hS : mo_is H S) (i : Int32) : ex_Met mX10_keep (d + 1) 0 0 H [.ref 86, .int i] (fun H' r => r = some (.int (f_keep S i).1) ∧ ex_ch H H' mL ∧ mo_is H' (f_keep S i).2) := by
  obtain ⟨R, mn, C, N, hS⟩ := hS
  obtain ⟨a1, ⟨hfi, hsd, hkp⟩, ⟨W, a2, hw0, ⟨hcn, hwh⟩, hwi⟩, ⟨T, a3, htn, htx⟩, ⟨F, a4, hfl⟩, ⟨IF, IL, IS, a5, a6, a7, him⟩, ⟨BX, BY, BG, a8, a9, a10, hbn, hbk⟩, a11, a12⟩ := id hS
  by_cases hx : nI 0 ≤ i ∧ i ≤ nI 1
  · obtain ⟨i, hi, rfl⟩ := nI_of3 (by decide) hx
    have ef : f_keep S (nI i) = (nI 1, s_hist (s_img S i S.2.2.1) (0, S.2.2.2.2.2.1.2)) := by
      unfold f_keep
      rw [cif_y hx, nI_clamp (by omega)]
    have hor : nI (S.2.2.2.1 0 + 2 * S.2.2.2.1 1) ||| (nI 1 <<< (nI i &&& 31)) = nI (va_up S.2.2.2.1 i 1 0 + 2 * va_up S.2.2.2.1 i 1 1) := by
      have h := kb_at _ (hkp 0 (by decide)) _ (hkp 1 (by decide))
      rcases (show i = 0 ∨ i = 1 by omega) with rfl | rfl
      · exact h.2.2.1
      · exact h.2.2.2
    refine ex_meth [(0, .ref 86), (1, .int (nI i))] rfl rfl rfl (fun b => Nat.le_of_ble_eq_true rfl) ?_
    refine ew_iload_n (M := mX10_keep) dX10_keep_0 rfl ?_
    refine ew_i2l (M := mX10_keep) dX10_keep_1 ?_
    refine ew_lconst (M := mX10_keep) dX10_keep_2 (v := 0) (by decide) ?_
    refine ew_lconst (M := mX10_keep) dX10_keep_3 (v := 1) (by decide) ?_
    refine ew_callS (M := mX10_keep) dX10_keep_4 vX10_58 (ms_in_y (l := nI 0) (g := nI 1) (by decide) (by decide) hx.1 hx.2) rfl (Nat.le_of_ble_eq_true rfl) ⟨Nat.le_refl _, Nat.le_refl _⟩ rfl (fun H4 r4 q4 => ?_)
    obtain ⟨rfl, rfl⟩ := q4
    refine ew_if_ne (M := mX10_keep) (tgt := 13) dX10_keep_7 rfl (fun _ => ?_) (fun h => absurd h (by decide))
    refine ew_aload_n (M := mX10_keep) dX10_keep_13 rfl (Or.inr (Or.inl ⟨_, rfl⟩)) ?_
    refine ew_iconst (M := mX10_keep) dX10_keep_14 (v := nI 0) (by decide) ?_
    refine ew_sipush (M := mX10_keep) dX10_keep_15 (v := nI 1394) (by decide) ?_
    refine ew_bipush (M := mX10_keep) dX10_keep_18 (v := nI 82) (by decide) ?_
    refine ew_iload_n (M := mX10_keep) dX10_keep_20 rfl ?_
    refine ew_imul (M := mX10_keep) dX10_keep_21 ?_
    rw [pk_mul]
    refine ew_iadd (M := mX10_keep) dX10_keep_22 ?_
    rw [nI_add]
    refine ew_callV (M := mX10_keep) dX10_keep_23 vX10_47 (by repeat (first | with_reducible assumption | refine ex_eq ?_ | refine ex_ne ?_ (by omega) | exact ex_lt (by with_reducible assumption) | rw [List.length_set] | assumption)) rfl (ms_copyRow a1 a2 (f := 0) (by omega) (by omega) (by omega)) rfl (Nat.le_of_ble_eq_true rfl) ⟨Nat.le_refl _, Nat.le_refl _⟩ rfl (fun H23 r23 q23 => ?_)
    obtain ⟨rfl, hc1, b2⟩ := q23
    have b1 := hc1.at a1 (by simp)
    have b3 := hc1.at a3 (by simp)
    have b4 := hc1.at a4 (by simp)
    have b5 := hc1.at a5 (by simp)
    have b6 := hc1.at a6 (by simp)
    have b7 := hc1.at a7 (by simp)
    have b8 := hc1.at a8 (by simp)
    have b9 := hc1.at a9 (by simp)
    have b10 := hc1.at a10 (by simp)
    have b11 := hc1.at a11 (by simp)
    have b12 := hc1.at a12 (by simp)
    refine ew_iconst (M := mX10_keep) dX10_keep_26 (v := nI 0) (by decide) ?_
    refine ew_istore_n (M := mX10_keep) dX10_keep_27 (by decide) rfl ?_
    refine ew_ls [(0, .ref 86), (1, .int (nI i)), (2, .int (nI 0))] ⟨rfl, rfl, rfl, trivial⟩ ?_
    refine nat_down (P := fun t => ∀ H2 : ex_H, ex_ch H23 H2 [90] → H2[90]? = some (ar .int 62 (ifW IF F (31 * i) 0 t)) → ex_W mX10_keep (d + 1) 0 0 _ H2 28 [(0, .ref 86), (1, .int (nI i)), (2, .int (nI t))] [] 0 0) 31 (fun t ht k => ?_) ?_ H23 ex_ch.rf (by rw [ifW_0]; exact b5)
    · intro H2 hc2 c5
      have c1 := hc2.at b1 (by simp)
      have c4 := hc2.at b4 (by simp)
      refine ew_iload_n (M := mX10_keep) dX10_keep_28 rfl ?_
      refine ew_bipush (M := mX10_keep) dX10_keep_29 (v := nI 31) (by decide) ?_
      refine ew_icmp_ge (M := mX10_keep) (tgt := 57) dX10_keep_31 rfl (fun h => absurd h (nI_ge ht (by decide))) (fun _ => ?_)
      refine ew_aload_n (M := mX10_keep) dX10_keep_34 rfl (Or.inr (Or.inl ⟨_, rfl⟩)) ?_
      refine ew_get (M := mX10_keep) dX10_keep_35 fX10_23 (by repeat (first | with_reducible assumption | refine ex_eq ?_ | refine ex_ne ?_ (by omega) | exact ex_lt (by with_reducible assumption) | rw [List.length_set] | assumption)) (by rfl) ?_
      refine ew_bipush (M := mX10_keep) dX10_keep_38 (v := nI 31) (by decide) ?_
      refine ew_iload_n (M := mX10_keep) dX10_keep_40 rfl ?_
      refine ew_imul (M := mX10_keep) dX10_keep_41 ?_
      rw [pk_mul]
      refine ew_iload_n (M := mX10_keep) dX10_keep_42 rfl ?_
      refine ew_iadd (M := mX10_keep) dX10_keep_43 ?_
      rw [nI_add]
      refine ew_aload_n (M := mX10_keep) dX10_keep_44 rfl (Or.inr (Or.inl ⟨_, rfl⟩)) ?_
      refine ew_get (M := mX10_keep) dX10_keep_45 fX10_20 (by repeat (first | with_reducible assumption | refine ex_eq ?_ | refine ex_ne ?_ (by omega) | exact ex_lt (by with_reducible assumption) | rw [List.length_set] | assumption)) (by rfl) ?_
      refine ew_iload_n (M := mX10_keep) dX10_keep_48 rfl ?_
      refine ew_iald (M := mX10_keep) (0 + t) dX10_keep_49 (by repeat (first | with_reducible assumption | refine ex_eq ?_ | refine ex_ne ?_ (by omega) | exact ex_lt (by with_reducible assumption) | rw [List.length_set] | assumption)) ⟨by rw [Nat.zero_add], by omega, by decide⟩ ?_
      refine ew_iast (M := mX10_keep) (31 * i + t) dX10_keep_50 (by repeat (first | with_reducible assumption | refine ex_eq ?_ | refine ex_ne ?_ (by omega) | exact ex_lt (by with_reducible assumption) | rw [List.length_set] | assumption)) ⟨rfl, by omega, by decide⟩ ?_
      refine ew_iinc (M := mX10_keep) dX10_keep_51 rfl (ex_inc t) (by decide) rfl ?_
      refine ew_goto (M := mX10_keep) (tgt := 28) dX10_keep_54 rfl ?_
      refine ew_ls _ ?_ (k _ (hc2.set (by simp)) (by rw [← ifW_s]; exact ex_eq (ex_lt c5)))
      exact ⟨rfl, rfl, rfl, trivial⟩
    · intro H2 hc2 c5
      have c1 := hc2.at b1 (by simp)
      have c4 := hc2.at b4 (by simp)
      have c2 := hc2.at b2 (by simp)
      have c3 := hc2.at b3 (by simp)
      have c6 := hc2.at b6 (by simp)
      have c7 := hc2.at b7 (by simp)
      have c8 := hc2.at b8 (by simp)
      have c9 := hc2.at b9 (by simp)
      have c10 := hc2.at b10 (by simp)
      have c11 := hc2.at b11 (by simp)
      have c12 := hc2.at b12 (by simp)
      refine ew_iload_n (M := mX10_keep) dX10_keep_28 rfl ?_
      refine ew_bipush (M := mX10_keep) dX10_keep_29 (v := nI 31) (by decide) ?_
      refine ew_icmp_ge (M := mX10_keep) (tgt := 57) dX10_keep_31 rfl (fun _ => ?_) (fun h => absurd (nI_le (Nat.le_refl _) (by decide)) h)
      refine ew_aload_n (M := mX10_keep) dX10_keep_57 rfl (Or.inr (Or.inl ⟨_, rfl⟩)) ?_
      refine ew_get (M := mX10_keep) dX10_keep_58 fX10_26 (by repeat (first | with_reducible assumption | refine ex_eq ?_ | refine ex_ne ?_ (by omega) | exact ex_lt (by with_reducible assumption) | rw [List.length_set] | assumption)) (by rfl) ?_
      refine ew_iload_n (M := mX10_keep) dX10_keep_61 rfl ?_
      refine ew_aload_n (M := mX10_keep) dX10_keep_62 rfl (Or.inr (Or.inl ⟨_, rfl⟩)) ?_
      refine ew_get (M := mX10_keep) dX10_keep_63 fX10_127 (by repeat (first | with_reducible assumption | refine ex_eq ?_ | refine ex_ne ?_ (by omega) | exact ex_lt (by with_reducible assumption) | rw [List.length_set] | assumption)) (by rfl) ?_
      refine ew_iast (M := mX10_keep) i dX10_keep_66 (by repeat (first | with_reducible assumption | refine ex_eq ?_ | refine ex_ne ?_ (by omega) | exact ex_lt (by with_reducible assumption) | rw [List.length_set] | assumption)) ⟨rfl, by omega, by decide⟩ ?_
      refine ew_aload_n (M := mX10_keep) dX10_keep_67 rfl (Or.inr (Or.inl ⟨_, rfl⟩)) ?_
      refine ew_get (M := mX10_keep) dX10_keep_68 fX10_29 (by repeat (first | with_reducible assumption | refine ex_eq ?_ | refine ex_ne ?_ (by omega) | exact ex_lt (by with_reducible assumption) | rw [List.length_set] | assumption)) (by rfl) ?_
      refine ew_iload_n (M := mX10_keep) dX10_keep_71 rfl ?_
      refine ew_aload_n (M := mX10_keep) dX10_keep_72 rfl (Or.inr (Or.inl ⟨_, rfl⟩)) ?_
      refine ew_get (M := mX10_keep) dX10_keep_73 fX10_204 (by repeat (first | with_reducible assumption | refine ex_eq ?_ | refine ex_ne ?_ (by omega) | exact ex_lt (by with_reducible assumption) | rw [List.length_set] | assumption)) (by rfl) ?_
      refine ew_iast (M := mX10_keep) i dX10_keep_76 (by repeat (first | with_reducible assumption | refine ex_eq ?_ | refine ex_ne ?_ (by omega) | exact ex_lt (by with_reducible assumption) | rw [List.length_set] | assumption)) ⟨rfl, by omega, by decide⟩ ?_
      refine ew_aload_n (M := mX10_keep) dX10_keep_77 rfl (Or.inr (Or.inl ⟨_, rfl⟩)) ?_
      refine ew_dup (M := mX10_keep) dX10_keep_78 rfl ?_
      refine ew_get (M := mX10_keep) dX10_keep_79 fX10_221 (by repeat (first | with_reducible assumption | refine ex_eq ?_ | refine ex_ne ?_ (by omega) | exact ex_lt (by with_reducible assumption) | rw [List.length_set] | assumption)) (by rfl) ?_
      refine ew_iconst (M := mX10_keep) dX10_keep_82 (v := nI 1) (by decide) ?_
      refine ew_iload_n (M := mX10_keep) dX10_keep_83 rfl ?_
      refine ew_ishl (M := mX10_keep) dX10_keep_84 ?_
      refine ew_ior (M := mX10_keep) dX10_keep_85 ?_
      rw [hor]
      refine ew_put (M := mX10_keep) dX10_keep_86 fX10_221 (by repeat (first | with_reducible assumption | refine ex_eq ?_ | refine ex_ne ?_ (by omega) | exact ex_lt (by with_reducible assumption) | rw [List.length_set] | assumption)) (by exact Nat.le_of_ble_eq_true rfl) ⟨rfl, rfl, fun _ h => by cases h⟩ ?_
      refine ew_aload_n (M := mX10_keep) dX10_keep_89 rfl (Or.inr (Or.inl ⟨_, rfl⟩)) ?_
      refine ew_iconst (M := mX10_keep) dX10_keep_90 (v := nI 0) (by decide) ?_
      refine ew_put (M := mX10_keep) dX10_keep_91 fX10_51 (by repeat (first | with_reducible assumption | refine ex_eq ?_ | refine ex_ne ?_ (by omega) | exact ex_lt (by with_reducible assumption) | rw [List.length_set] | assumption)) (by exact Nat.le_of_ble_eq_true rfl) ⟨rfl, rfl, fun _ h => by cases h⟩ ?_
      refine ew_iconst (M := mX10_keep) dX10_keep_94 (v := nI 1) (by decide) ?_
      refine ew_iret (M := mX10_keep) dX10_keep_95 rfl (by first | rfl | decide) (Nat.le_refl _) (Nat.le_refl _) ?_
      refine ⟨by rw [ef], (((((hc1.sub (mL_sub (by decide))).tr hc2 (mL_sub (by decide))).set (by decide)).set (by decide)).set (by decide)).set (by decide), ?_⟩
      rw [ef]
      refine ⟨R, mn, C, N, by exact ex_eq (by repeat (first | rw [List.length_set] | exact ex_lt c1)), ⟨hfi, hsd, fun q hq => ?_⟩, ⟨_, (by repeat (first | with_reducible assumption | refine ex_eq ?_ | refine ex_ne ?_ (by omega) | exact ex_lt (by with_reducible assumption) | rw [List.length_set] | assumption)), ?_, ⟨Nat.zero_le _, fun k hk => absurd hk (Nat.not_lt_zero _)⟩, fun q hq hk => ?_⟩, ⟨T, (by repeat (first | with_reducible assumption | refine ex_eq ?_ | refine ex_ne ?_ (by omega) | exact ex_lt (by with_reducible assumption) | rw [List.length_set] | assumption)), htn, htx⟩, ⟨F, (by repeat (first | with_reducible assumption | refine ex_eq ?_ | refine ex_ne ?_ (by omega) | exact ex_lt (by with_reducible assumption) | rw [List.length_set] | assumption)), hfl⟩, ⟨_, _, _, (by repeat (first | with_reducible assumption | refine ex_eq ?_ | refine ex_ne ?_ (by omega) | exact ex_lt (by with_reducible assumption) | rw [List.length_set] | assumption)), (by repeat (first | with_reducible assumption | refine ex_eq ?_ | refine ex_ne ?_ (by omega) | exact ex_lt (by with_reducible assumption) | rw [List.length_set] | assumption)), (by repeat (first | with_reducible assumption | refine ex_eq ?_ | refine ex_ne ?_ (by omega) | exact ex_lt (by with_reducible assumption) | rw [List.length_set] | assumption)), fun q hq hk => ?_⟩, ⟨BX, BY, BG, (by repeat (first | with_reducible assumption | refine ex_eq ?_ | refine ex_ne ?_ (by omega) | exact ex_lt (by with_reducible assumption) | rw [List.length_set] | assumption)), (by repeat (first | with_reducible assumption | refine ex_eq ?_ | refine ex_ne ?_ (by omega) | exact ex_lt (by with_reducible assumption) | rw [List.length_set] | assumption)), (by repeat (first | with_reducible assumption | refine ex_eq ?_ | refine ex_ne ?_ (by omega) | exact ex_lt (by with_reducible assumption) | rw [List.length_set] | assumption)), hbn, hbk⟩, (by repeat (first | with_reducible assumption | refine ex_eq ?_ | refine ex_ne ?_ (by omega) | exact ex_lt (by with_reducible assumption) | rw [List.length_set] | assumption)), (by repeat (first | with_reducible assumption | refine ex_eq ?_ | refine ex_ne ?_ (by omega) | exact ex_lt (by with_reducible assumption) | rw [List.length_set] | assumption))⟩
      · show va_up S.2.2.2.1 i 1 q < 2
        unfold va_up
        split
        · decide
        · exact hkp q hq
      · exact hw0.cg (fun q hq => if_neg (by omega))
      · show mw _ _ (va_up S.2.2.2.2.1 i S.2.2.1 q).1
        have hk : va_up S.2.2.2.1 i 1 q = 1 := hk
        by_cases e : q = i
        · subst e
          simp only [va_up, if_true]
          exact hw0.cg (fun p hp => by
            show (if _ then _ else _) = _
            rw [if_pos (by omega)]
            congr 1
            omega)
        · simp only [va_up, if_neg e] at hk ⊢
          exact (hwi q hq hk).cg (fun p hp => if_neg (by omega))
      · show mfl _ _ (va_up S.2.2.2.2.1 i S.2.2.1 q).2.1 ∧ upd IL i (nI S.2.2.1.2.2.1) q = nI (va_up S.2.2.2.2.1 i S.2.2.1 q).2.2.1 ∧ (va_up S.2.2.2.2.1 i S.2.2.1 q).2.2.1 < 256 ∧ upd IS i (nI S.2.2.1.2.2.2) q = nI (va_up S.2.2.2.2.1 i S.2.2.1 q).2.2.2 ∧ (va_up S.2.2.2.2.1 i S.2.2.1 q).2.2.2 < 2 ^ 31
        have hk : va_up S.2.2.2.1 i 1 q = 1 := hk
        by_cases e : q = i
        · subst e
          simp only [va_up, upd, if_true]
          exact ⟨hfl.cg (fun p hp => by
            show (if _ then _ else _) = _
            rw [if_pos (by omega)]
            congr 1
            omega), trivial, hfi, trivial, hsd⟩
        · simp only [va_up, upd, if_neg e] at hk ⊢
          obtain ⟨m1, m2⟩ := him q hq hk
          exact ⟨m1.cg (fun p hp => if_neg (by omega)), m2⟩
  · have ef : f_keep S i = (-1000000001, S) := by
      unfold f_keep
      rw [cif_n hx]
    refine ex_meth [(0, .ref 86), (1, .int i)] rfl rfl rfl (fun b => Nat.le_of_ble_eq_true rfl) ?_
    refine ew_iload_n (M := mX10_keep) dX10_keep_0 rfl ?_
    refine ew_i2l (M := mX10_keep) dX10_keep_1 ?_
    refine ew_lconst (M := mX10_keep) dX10_keep_2 (v := 0) (by decide) ?_
    refine ew_lconst (M := mX10_keep) dX10_keep_3 (v := 1) (by decide) ?_
    refine ew_callS (M := mX10_keep) dX10_keep_4 vX10_58 (ms_in_n (l := nI 0) (g := nI 1) (by decide) (by decide) hx) rfl (Nat.le_of_ble_eq_true rfl) ⟨Nat.le_refl _, Nat.le_refl _⟩ rfl (fun H4 r4 q4 => ?_)
    obtain ⟨rfl, rfl⟩ := q4
    refine ew_if_ne (M := mX10_keep) (tgt := 13) dX10_keep_7 rfl (fun h => absurd (by decide) h) (fun _ => ?_)
    refine ew_ldc (M := mX10_keep) dX10_keep_10 kX10_175 ?_
    refine ew_iret (M := mX10_keep) dX10_keep_12 rfl (by first | rfl | decide) (Nat.le_refl _) (Nat.le_refl _) ?_
    exact ⟨by rw [ef], ex_ch.rf, by rw [ef]; exact ⟨_, _, _, _, hS⟩⟩
theorem ms_goBack {d : Nat} {H : ex_H} {S : SS} (hS : mo_is H S) (i : Int32) : ex_Met mX10_goBack (d + 1) 0 0 H [.ref 86, .int i] (fun H' r => r = some (.int (f_goBack S i).1) ∧ ex_ch H H' mL ∧ mo_is H' (f_goBack S i).2) := by
  obtain ⟨R, mn, C, N, hS⟩ := hS
  obtain ⟨a1, ⟨hfi, hsd, hkp⟩, ⟨W, a2, hw0, ⟨hcn, hwh⟩, hwi⟩, ⟨T, a3, htn, htx⟩, ⟨F, a4, hfl⟩, ⟨IF, IL, IS, a5, a6, a7, him⟩, ⟨BX, BY, BG, a8, a9, a10, hbn, hbk⟩, a11, a12⟩ := id hS
  by_cases hx : nI 0 ≤ i ∧ i ≤ nI 1
  · obtain ⟨i, hi, rfl⟩ := nI_of3 (by decide) hx
    have hk2 := hkp i (by omega)
    by_cases hk : S.2.2.2.1 i = 0
    · have ef : f_goBack S (nI i) = (-1000000003, S) := by
        unfold f_goBack
        rw [cif_y hx, nI_clamp (by omega), cif_y hk]
      refine ex_meth [(0, .ref 86), (1, .int (nI i))] rfl rfl rfl (fun b => Nat.le_of_ble_eq_true rfl) ?_
      refine ew_iload_n (M := mX10_goBack) dX10_goBack_0 rfl ?_
      refine ew_i2l (M := mX10_goBack) dX10_goBack_1 ?_
      refine ew_lconst (M := mX10_goBack) dX10_goBack_2 (v := 0) (by decide) ?_
      refine ew_lconst (M := mX10_goBack) dX10_goBack_3 (v := 1) (by decide) ?_
      refine ew_callS (M := mX10_goBack) dX10_goBack_4 vX10_58 (ms_in_y (l := nI 0) (g := nI 1) (by decide) (by decide) hx.1 hx.2) rfl (Nat.le_of_ble_eq_true rfl) ⟨Nat.le_refl _, Nat.le_refl _⟩ rfl (fun H4 r4 q4 => ?_)
      obtain ⟨rfl, rfl⟩ := q4
      refine ew_if_ne (M := mX10_goBack) (tgt := 13) dX10_goBack_7 rfl (fun _ => ?_) (fun h => absurd h (by decide))
      refine ew_aload_n (M := mX10_goBack) dX10_goBack_13 rfl (Or.inr (Or.inl ⟨_, rfl⟩)) ?_
      refine ew_iload_n (M := mX10_goBack) dX10_goBack_14 rfl ?_
      refine ew_callV (M := mX10_goBack) dX10_goBack_15 vX10_224 (by repeat (first | with_reducible assumption | refine ex_eq ?_ | refine ex_ne ?_ (by omega) | exact ex_lt (by with_reducible assumption) | rw [List.length_set] | assumption)) rfl (ms_isKept hS (by omega)) rfl (Nat.le_of_ble_eq_true rfl) ⟨Nat.le_refl _, Nat.le_refl _⟩ rfl (fun H15 r15 q15 => ?_)
      obtain ⟨rfl, rfl⟩ := q15
      rw [hk]
      refine ew_if_ne (M := mX10_goBack) (tgt := 24) dX10_goBack_18 rfl (fun h => absurd rfl h) (fun _ => ?_)
      refine ew_ldc (M := mX10_goBack) dX10_goBack_21 kX10_195 ?_
      refine ew_iret (M := mX10_goBack) dX10_goBack_23 rfl (by first | rfl | decide) (Nat.le_refl _) (Nat.le_refl _) ?_
      exact ⟨by rw [ef], ex_ch.rf, by rw [ef]; exact ⟨_, _, _, _, hS⟩⟩
    · have ef : f_goBack S (nI i) = (nI 1, s_hist (s_now S (S.2.2.2.2.1 i)) (0, S.2.2.2.2.2.1.2)) := by
        unfold f_goBack
        rw [cif_y hx, nI_clamp (by omega), cif_n hk]
      have hk1 : S.2.2.2.1 i = 1 := by omega
      obtain ⟨im1, im2, im3, im4, im5⟩ := him i (by omega) hk1
      refine ex_meth [(0, .ref 86), (1, .int (nI i))] rfl rfl rfl (fun b => Nat.le_of_ble_eq_true rfl) ?_
      refine ew_iload_n (M := mX10_goBack) dX10_goBack_0 rfl ?_
      refine ew_i2l (M := mX10_goBack) dX10_goBack_1 ?_
      refine ew_lconst (M := mX10_goBack) dX10_goBack_2 (v := 0) (by decide) ?_
      refine ew_lconst (M := mX10_goBack) dX10_goBack_3 (v := 1) (by decide) ?_
      refine ew_callS (M := mX10_goBack) dX10_goBack_4 vX10_58 (ms_in_y (l := nI 0) (g := nI 1) (by decide) (by decide) hx.1 hx.2) rfl (Nat.le_of_ble_eq_true rfl) ⟨Nat.le_refl _, Nat.le_refl _⟩ rfl (fun H4 r4 q4 => ?_)
      obtain ⟨rfl, rfl⟩ := q4
      refine ew_if_ne (M := mX10_goBack) (tgt := 13) dX10_goBack_7 rfl (fun _ => ?_) (fun h => absurd h (by decide))
      refine ew_aload_n (M := mX10_goBack) dX10_goBack_13 rfl (Or.inr (Or.inl ⟨_, rfl⟩)) ?_
      refine ew_iload_n (M := mX10_goBack) dX10_goBack_14 rfl ?_
      refine ew_callV (M := mX10_goBack) dX10_goBack_15 vX10_224 (by repeat (first | with_reducible assumption | refine ex_eq ?_ | refine ex_ne ?_ (by omega) | exact ex_lt (by with_reducible assumption) | rw [List.length_set] | assumption)) rfl (ms_isKept hS (by omega)) rfl (Nat.le_of_ble_eq_true rfl) ⟨Nat.le_refl _, Nat.le_refl _⟩ rfl (fun H15 r15 q15 => ?_)
      obtain ⟨rfl, rfl⟩ := q15
      rw [hk1]
      refine ew_if_ne (M := mX10_goBack) (tgt := 24) dX10_goBack_18 rfl (fun _ => ?_) (fun h => absurd h (by decide))
      refine ew_aload_n (M := mX10_goBack) dX10_goBack_24 rfl (Or.inr (Or.inl ⟨_, rfl⟩)) ?_
      refine ew_sipush (M := mX10_goBack) dX10_goBack_25 (v := nI 1394) (by decide) ?_
      refine ew_bipush (M := mX10_goBack) dX10_goBack_28 (v := nI 82) (by decide) ?_
      refine ew_iload_n (M := mX10_goBack) dX10_goBack_30 rfl ?_
      refine ew_imul (M := mX10_goBack) dX10_goBack_31 ?_
      rw [pk_mul]
      refine ew_iadd (M := mX10_goBack) dX10_goBack_32 ?_
      rw [nI_add]
      refine ew_iconst (M := mX10_goBack) dX10_goBack_33 (v := nI 0) (by decide) ?_
      refine ew_callV (M := mX10_goBack) dX10_goBack_34 vX10_47 (by repeat (first | with_reducible assumption | refine ex_eq ?_ | refine ex_ne ?_ (by omega) | exact ex_lt (by with_reducible assumption) | rw [List.length_set] | assumption)) rfl (ms_copyRow a1 a2 (t := 0) (by omega) (by omega) (by omega)) rfl (Nat.le_of_ble_eq_true rfl) ⟨Nat.le_refl _, Nat.le_refl _⟩ rfl (fun H34 r34 q34 => ?_)
      obtain ⟨rfl, hc1, b2⟩ := q34
      have b1 := hc1.at a1 (by simp)
      have b3 := hc1.at a3 (by simp)
      have b4 := hc1.at a4 (by simp)
      have b5 := hc1.at a5 (by simp)
      have b6 := hc1.at a6 (by simp)
      have b7 := hc1.at a7 (by simp)
      have b8 := hc1.at a8 (by simp)
      have b9 := hc1.at a9 (by simp)
      have b10 := hc1.at a10 (by simp)
      have b11 := hc1.at a11 (by simp)
      have b12 := hc1.at a12 (by simp)
      refine ew_iconst (M := mX10_goBack) dX10_goBack_37 (v := nI 0) (by decide) ?_
      refine ew_istore_n (M := mX10_goBack) dX10_goBack_38 (by decide) rfl ?_
      refine ew_ls [(0, .ref 86), (1, .int (nI i)), (2, .int (nI 0))] ⟨rfl, rfl, rfl, trivial⟩ ?_
      refine nat_down (P := fun t => ∀ H2 : ex_H, ex_ch H34 H2 [89] → H2[89]? = some (ar .int 31 (ifW F IF 0 (31 * i) t)) → ex_W mX10_goBack (d + 1) 0 0 _ H2 39 [(0, .ref 86), (1, .int (nI i)), (2, .int (nI t))] [] 0 0) 31 (fun t ht k => ?_) ?_ H34 ex_ch.rf (by rw [ifW_0]; exact b4)
      · intro H2 hc2 c4
        have c1 := hc2.at b1 (by simp)
        have c5 := hc2.at b5 (by simp)
        refine ew_iload_n (M := mX10_goBack) dX10_goBack_39 rfl ?_
        refine ew_bipush (M := mX10_goBack) dX10_goBack_40 (v := nI 31) (by decide) ?_
        refine ew_icmp_ge (M := mX10_goBack) (tgt := 68) dX10_goBack_42 rfl (fun h => absurd h (nI_ge ht (by decide))) (fun _ => ?_)
        refine ew_aload_n (M := mX10_goBack) dX10_goBack_45 rfl (Or.inr (Or.inl ⟨_, rfl⟩)) ?_
        refine ew_get (M := mX10_goBack) dX10_goBack_46 fX10_20 (by repeat (first | with_reducible assumption | refine ex_eq ?_ | refine ex_ne ?_ (by omega) | exact ex_lt (by with_reducible assumption) | rw [List.length_set] | assumption)) (by rfl) ?_
        refine ew_iload_n (M := mX10_goBack) dX10_goBack_49 rfl ?_
        refine ew_aload_n (M := mX10_goBack) dX10_goBack_50 rfl (Or.inr (Or.inl ⟨_, rfl⟩)) ?_
        refine ew_get (M := mX10_goBack) dX10_goBack_51 fX10_23 (by repeat (first | with_reducible assumption | refine ex_eq ?_ | refine ex_ne ?_ (by omega) | exact ex_lt (by with_reducible assumption) | rw [List.length_set] | assumption)) (by rfl) ?_
        refine ew_bipush (M := mX10_goBack) dX10_goBack_54 (v := nI 31) (by decide) ?_
        refine ew_iload_n (M := mX10_goBack) dX10_goBack_56 rfl ?_
        refine ew_imul (M := mX10_goBack) dX10_goBack_57 ?_
        rw [pk_mul]
        refine ew_iload_n (M := mX10_goBack) dX10_goBack_58 rfl ?_
        refine ew_iadd (M := mX10_goBack) dX10_goBack_59 ?_
        rw [nI_add]
        refine ew_iald (M := mX10_goBack) (31 * i + t) dX10_goBack_60 (by repeat (first | with_reducible assumption | refine ex_eq ?_ | refine ex_ne ?_ (by omega) | exact ex_lt (by with_reducible assumption) | rw [List.length_set] | assumption)) ⟨rfl, by omega, by decide⟩ ?_
        refine ew_iast (M := mX10_goBack) (0 + t) dX10_goBack_61 (by repeat (first | with_reducible assumption | refine ex_eq ?_ | refine ex_ne ?_ (by omega) | exact ex_lt (by with_reducible assumption) | rw [List.length_set] | assumption)) ⟨by rw [Nat.zero_add], by omega, by decide⟩ ?_
        refine ew_iinc (M := mX10_goBack) dX10_goBack_62 rfl (ex_inc t) (by decide) rfl ?_
        refine ew_goto (M := mX10_goBack) (tgt := 39) dX10_goBack_65 rfl ?_
        refine ew_ls _ ?_ (k _ (hc2.set (by simp)) (by rw [← ifW_s]; exact ex_eq (ex_lt c4)))
        exact ⟨rfl, rfl, rfl, trivial⟩
      · intro H2 hc2 c4
        have c1 := hc2.at b1 (by simp)
        have c5 := hc2.at b5 (by simp)
        have c2 := hc2.at b2 (by simp)
        have c3 := hc2.at b3 (by simp)
        have c6 := hc2.at b6 (by simp)
        have c7 := hc2.at b7 (by simp)
        have c8 := hc2.at b8 (by simp)
        have c9 := hc2.at b9 (by simp)
        have c10 := hc2.at b10 (by simp)
        have c11 := hc2.at b11 (by simp)
        have c12 := hc2.at b12 (by simp)
        refine ew_iload_n (M := mX10_goBack) dX10_goBack_39 rfl ?_
        refine ew_bipush (M := mX10_goBack) dX10_goBack_40 (v := nI 31) (by decide) ?_
        refine ew_icmp_ge (M := mX10_goBack) (tgt := 68) dX10_goBack_42 rfl (fun _ => ?_) (fun h => absurd (nI_le (Nat.le_refl _) (by decide)) h)
        refine ew_aload_n (M := mX10_goBack) dX10_goBack_68 rfl (Or.inr (Or.inl ⟨_, rfl⟩)) ?_
        refine ew_aload_n (M := mX10_goBack) dX10_goBack_69 rfl (Or.inr (Or.inl ⟨_, rfl⟩)) ?_
        refine ew_get (M := mX10_goBack) dX10_goBack_70 fX10_26 (by repeat (first | with_reducible assumption | refine ex_eq ?_ | refine ex_ne ?_ (by omega) | exact ex_lt (by with_reducible assumption) | rw [List.length_set] | assumption)) (by rfl) ?_
        refine ew_iload_n (M := mX10_goBack) dX10_goBack_73 rfl ?_
        refine ew_iald (M := mX10_goBack) i dX10_goBack_74 (by repeat (first | with_reducible assumption | refine ex_eq ?_ | refine ex_ne ?_ (by omega) | exact ex_lt (by with_reducible assumption) | rw [List.length_set] | assumption)) ⟨rfl, by omega, by decide⟩ ?_
        rw [im2]
        refine ew_put (M := mX10_goBack) dX10_goBack_75 fX10_127 (by repeat (first | with_reducible assumption | refine ex_eq ?_ | refine ex_ne ?_ (by omega) | exact ex_lt (by with_reducible assumption) | rw [List.length_set] | assumption)) (by exact Nat.le_of_ble_eq_true rfl) ⟨rfl, rfl, fun _ h => by cases h⟩ ?_
        refine ew_aload_n (M := mX10_goBack) dX10_goBack_78 rfl (Or.inr (Or.inl ⟨_, rfl⟩)) ?_
        refine ew_aload_n (M := mX10_goBack) dX10_goBack_79 rfl (Or.inr (Or.inl ⟨_, rfl⟩)) ?_
        refine ew_get (M := mX10_goBack) dX10_goBack_80 fX10_29 (by repeat (first | with_reducible assumption | refine ex_eq ?_ | refine ex_ne ?_ (by omega) | exact ex_lt (by with_reducible assumption) | rw [List.length_set] | assumption)) (by rfl) ?_
        refine ew_iload_n (M := mX10_goBack) dX10_goBack_83 rfl ?_
        refine ew_iald (M := mX10_goBack) i dX10_goBack_84 (by repeat (first | with_reducible assumption | refine ex_eq ?_ | refine ex_ne ?_ (by omega) | exact ex_lt (by with_reducible assumption) | rw [List.length_set] | assumption)) ⟨rfl, by omega, by decide⟩ ?_
        rw [im4]
        refine ew_put (M := mX10_goBack) dX10_goBack_85 fX10_204 (by repeat (first | with_reducible assumption | refine ex_eq ?_ | refine ex_ne ?_ (by omega) | exact ex_lt (by with_reducible assumption) | rw [List.length_set] | assumption)) (by exact Nat.le_of_ble_eq_true rfl) ⟨rfl, rfl, fun _ h => by cases h⟩ ?_
        refine ew_aload_n (M := mX10_goBack) dX10_goBack_88 rfl (Or.inr (Or.inl ⟨_, rfl⟩)) ?_
        refine ew_iconst (M := mX10_goBack) dX10_goBack_89 (v := nI 0) (by decide) ?_
        refine ew_put (M := mX10_goBack) dX10_goBack_90 fX10_51 (by repeat (first | with_reducible assumption | refine ex_eq ?_ | refine ex_ne ?_ (by omega) | exact ex_lt (by with_reducible assumption) | rw [List.length_set] | assumption)) (by exact Nat.le_of_ble_eq_true rfl) ⟨rfl, rfl, fun _ h => by cases h⟩ ?_
        refine ew_iconst (M := mX10_goBack) dX10_goBack_93 (v := nI 1) (by decide) ?_
        refine ew_iret (M := mX10_goBack) dX10_goBack_94 rfl (by first | rfl | decide) (Nat.le_refl _) (Nat.le_refl _) ?_
        refine ⟨by rw [ef], ((((hc1.sub (mL_sub (by decide))).tr hc2 (mL_sub (by decide))).set (by decide)).set (by decide)).set (by decide), ?_⟩
        rw [ef]
        refine ⟨R, mn, C, N, by exact ex_eq (by repeat (first | rw [List.length_set] | exact ex_lt c1)), ⟨im3, im5, hkp⟩, ⟨_, (by repeat (first | with_reducible assumption | refine ex_eq ?_ | refine ex_ne ?_ (by omega) | exact ex_lt (by with_reducible assumption) | rw [List.length_set] | assumption)), ?_, ⟨Nat.zero_le _, fun k hk => absurd hk (Nat.not_lt_zero _)⟩, fun q hq hk => ?_⟩, ⟨T, (by repeat (first | with_reducible assumption | refine ex_eq ?_ | refine ex_ne ?_ (by omega) | exact ex_lt (by with_reducible assumption) | rw [List.length_set] | assumption)), htn, htx⟩, ⟨_, (by repeat (first | with_reducible assumption | refine ex_eq ?_ | refine ex_ne ?_ (by omega) | exact ex_lt (by with_reducible assumption) | rw [List.length_set] | assumption)), ?_⟩, ⟨IF, IL, IS, (by repeat (first | with_reducible assumption | refine ex_eq ?_ | refine ex_ne ?_ (by omega) | exact ex_lt (by with_reducible assumption) | rw [List.length_set] | assumption)), (by repeat (first | with_reducible assumption | refine ex_eq ?_ | refine ex_ne ?_ (by omega) | exact ex_lt (by with_reducible assumption) | rw [List.length_set] | assumption)), (by repeat (first | with_reducible assumption | refine ex_eq ?_ | refine ex_ne ?_ (by omega) | exact ex_lt (by with_reducible assumption) | rw [List.length_set] | assumption)), him⟩, ⟨BX, BY, BG, (by repeat (first | with_reducible assumption | refine ex_eq ?_ | refine ex_ne ?_ (by omega) | exact ex_lt (by with_reducible assumption) | rw [List.length_set] | assumption)), (by repeat (first | with_reducible assumption | refine ex_eq ?_ | refine ex_ne ?_ (by omega) | exact ex_lt (by with_reducible assumption) | rw [List.length_set] | assumption)), (by repeat (first | with_reducible assumption | refine ex_eq ?_ | refine ex_ne ?_ (by omega) | exact ex_lt (by with_reducible assumption) | rw [List.length_set] | assumption)), hbn, hbk⟩, (by repeat (first | with_reducible assumption | refine ex_eq ?_ | refine ex_ne ?_ (by omega) | exact ex_lt (by with_reducible assumption) | rw [List.length_set] | assumption)), (by repeat (first | with_reducible assumption | refine ex_eq ?_ | refine ex_ne ?_ (by omega) | exact ex_lt (by with_reducible assumption) | rw [List.length_set] | assumption))⟩
        · exact (hwi i (by omega) hk1).cg (fun p hp => by
            show (if _ then _ else _) = _
            rw [if_pos (by omega)]
            congr 1
            omega)
        · exact (hwi q hq hk).cg (fun p hp => if_neg (by omega))
        · exact im1.cg (fun p hp => by
            show (if _ then _ else _) = _
            rw [if_pos (by omega)]
            congr 1
            omega)
  · have ef : f_goBack S i = (-1000000001, S) := by
      unfold f_goBack
      rw [cif_n hx]
    refine ex_meth [(0, .ref 86), (1, .int i)] rfl rfl rfl (fun b => Nat.le_of_ble_eq_true rfl) ?_
    refine ew_iload_n (M := mX10_goBack) dX10_goBack_0 rfl ?_
    refine ew_i2l (M := mX10_goBack) dX10_goBack_1 ?_
    refine ew_lconst (M := mX10_goBack) dX10_goBack_2 (v := 0) (by decide) ?_
    refine ew_lconst (M := mX10_goBack) dX10_goBack_3 (v := 1) (by decide) ?_
    refine ew_callS (M := mX10_goBack) dX10_goBack_4 vX10_58 (ms_in_n (l := nI 0) (g := nI 1) (by decide) (by decide) hx) rfl (Nat.le_of_ble_eq_true rfl) ⟨Nat.le_refl _, Nat.le_refl _⟩ rfl (fun H4 r4 q4 => ?_)
    obtain ⟨rfl, rfl⟩ := q4
    refine ew_if_ne (M := mX10_goBack) (tgt := 13) dX10_goBack_7 rfl (fun h => absurd (by decide) h) (fun _ => ?_)
    refine ew_ldc (M := mX10_goBack) dX10_goBack_10 kX10_175 ?_
    refine ew_iret (M := mX10_goBack) dX10_goBack_12 rfl (by first | rfl | decide) (Nat.le_refl _) (Nat.le_refl _) ?_
    exact ⟨by rw [ef], ex_ch.rf, by rw [ef]; exact ⟨_, _, _, _, hS⟩⟩
