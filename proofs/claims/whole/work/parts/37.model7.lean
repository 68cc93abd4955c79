theorem ms_against {d : Nat} {H : ex_H} {S : SS} (hS : mo_is H S) (i : Int32) : ex_Met mX10_against (d + 1) 0 0 H [.ref 86, .int i] (fun H' r => r = some (.int (f_against S i).1) ∧ ex_ch H H' mL ∧ mo_is H' (f_against S i).2) := by
  obtain ⟨R, mn, C, N, hS⟩ := hS
  obtain ⟨a1, ⟨hfi, hsd, hkp⟩, ⟨W, a2, hw0, ⟨hcn, hwh⟩, hwi⟩, ⟨T, a3, htn, htx⟩, ⟨F, a4, hfl⟩, ⟨IF, IL, IS, a5, a6, a7, him⟩, ⟨BX, BY, BG, a8, a9, a10, hbn, hbk⟩, a11, a12⟩ := id hS
  obtain ⟨⟨⟨hz1, hz2, hz3, hz4⟩, hgm⟩, hW0, hW1, hWd⟩ := id hw0
  have hW1 : W 1 = nI S.2.2.1.1.2.1 := hW1
  by_cases hx : nI 0 ≤ i ∧ i ≤ nI 1
  · obtain ⟨i, hi, rfl⟩ := nI_of3 (by decide) hx
    have hk2 := hkp i (by omega)
    by_cases hk : S.2.2.2.1 i = 0
    · have ef : f_against S (nI i) = (-1000000003, S) := by
        unfold f_against
        rw [cif_y hx, nI_clamp (by omega), cif_y hk]
      refine ex_meth [(0, .ref 86), (1, .int (nI i))] rfl rfl rfl (fun b => Nat.le_of_ble_eq_true rfl) ?_
      refine ew_iload_n (M := mX10_against) dX10_against_0 rfl ?_
      refine ew_i2l (M := mX10_against) dX10_against_1 ?_
      refine ew_lconst (M := mX10_against) dX10_against_2 (v := 0) (by decide) ?_
      refine ew_lconst (M := mX10_against) dX10_against_3 (v := 1) (by decide) ?_
      refine ew_callS (M := mX10_against) dX10_against_4 vX10_58 (ms_in_y (l := nI 0) (g := nI 1) (by decide) (by decide) hx.1 hx.2) rfl (Nat.le_of_ble_eq_true rfl) ⟨Nat.le_refl _, Nat.le_refl _⟩ rfl (fun H4 r4 q4 => ?_)
      obtain ⟨rfl, rfl⟩ := q4
      refine ew_if_ne (M := mX10_against) (tgt := 13) dX10_against_7 rfl (fun _ => ?_) (fun h => absurd h (by decide))
      refine ew_aload_n (M := mX10_against) dX10_against_13 rfl (Or.inr (Or.inl ⟨_, rfl⟩)) ?_
      refine ew_iload_n (M := mX10_against) dX10_against_14 rfl ?_
      refine ew_callV (M := mX10_against) dX10_against_15 vX10_224 (by repeat (first | with_reducible assumption | refine ex_eq ?_ | refine ex_ne ?_ (by omega) | exact ex_lt (by with_reducible assumption) | rw [List.length_set] | assumption)) rfl (ms_isKept hS (by omega)) rfl (Nat.le_of_ble_eq_true rfl) ⟨Nat.le_refl _, Nat.le_refl _⟩ rfl (fun H15 r15 q15 => ?_)
      obtain ⟨rfl, rfl⟩ := q15
      rw [hk]
      refine ew_if_ne (M := mX10_against) (tgt := 24) dX10_against_18 rfl (fun h => absurd rfl h) (fun _ => ?_)
      refine ew_ldc (M := mX10_against) dX10_against_21 kX10_195 ?_
      refine ew_iret (M := mX10_against) dX10_against_23 rfl (by first | rfl | decide) (Nat.le_refl _) (Nat.le_refl _) ?_
      exact ⟨by rw [ef], ex_ch.rf, by rw [ef]; exact ⟨_, _, _, _, hS⟩⟩
    · have hk1 : S.2.2.2.1 i = 1 := by omega
      obtain ⟨⟨⟨vz1, vz2, vz3, vz4⟩, vgm⟩, v0, v1, vd⟩ := hwi i (by omega) hk1
      by_cases hq : S.2.2.1.1.1 = (S.2.2.2.2.1 i).1.1 ∧ S.2.2.1.1.2.1 = (S.2.2.2.2.1 i).1.2.1
      · have ef : f_against S (nI i) = (nI (fl (fun j s => fl (fun a => (fun k n => if S.2.2.1.1.2.2.1 k = (S.2.2.2.2.1 i).1.2.2.1 k then (if S.2.2.1.1.2.2.2 k = (S.2.2.2.2.1 i).1.2.2.2 k then n else n + 1) else n + 1) (j * S.2.2.1.1.1 + a)) S.2.2.1.1.1 s) S.2.2.1.1.2.1 0), S) := by
          unfold f_against f_againstV
          rw [cif_y hx, nI_clamp (by omega), cif_n hk, cif_y hq]
          exact congrArg (fun q => (nI q, S)) (fl_rows _ _ _ _)
        refine ex_meth [(0, .ref 86), (1, .int (nI i))] rfl rfl rfl (fun b => Nat.le_of_ble_eq_true rfl) ?_
        refine ew_iload_n (M := mX10_against) dX10_against_0 rfl ?_
        refine ew_i2l (M := mX10_against) dX10_against_1 ?_
        refine ew_lconst (M := mX10_against) dX10_against_2 (v := 0) (by decide) ?_
        refine ew_lconst (M := mX10_against) dX10_against_3 (v := 1) (by decide) ?_
        refine ew_callS (M := mX10_against) dX10_against_4 vX10_58 (ms_in_y (l := nI 0) (g := nI 1) (by decide) (by decide) hx.1 hx.2) rfl (Nat.le_of_ble_eq_true rfl) ⟨Nat.le_refl _, Nat.le_refl _⟩ rfl (fun H4 r4 q4 => ?_)
        obtain ⟨rfl, rfl⟩ := q4
        refine ew_if_ne (M := mX10_against) (tgt := 13) dX10_against_7 rfl (fun _ => ?_) (fun h => absurd h (by decide))
        refine ew_aload_n (M := mX10_against) dX10_against_13 rfl (Or.inr (Or.inl ⟨_, rfl⟩)) ?_
        refine ew_iload_n (M := mX10_against) dX10_against_14 rfl ?_
        refine ew_callV (M := mX10_against) dX10_against_15 vX10_224 (by repeat (first | with_reducible assumption | refine ex_eq ?_ | refine ex_ne ?_ (by omega) | exact ex_lt (by with_reducible assumption) | rw [List.length_set] | assumption)) rfl (ms_isKept hS (by omega)) rfl (Nat.le_of_ble_eq_true rfl) ⟨Nat.le_refl _, Nat.le_refl _⟩ rfl (fun H15 r15 q15 => ?_)
        obtain ⟨rfl, rfl⟩ := q15
        rw [hk1]
        refine ew_if_ne (M := mX10_against) (tgt := 24) dX10_against_18 rfl (fun _ => ?_) (fun h => absurd h (by decide))
        refine ew_sipush (M := mX10_against) dX10_against_24 (v := nI 1394) (by decide) ?_
        refine ew_bipush (M := mX10_against) dX10_against_27 (v := nI 82) (by decide) ?_
        refine ew_iload_n (M := mX10_against) dX10_against_29 rfl ?_
        refine ew_imul (M := mX10_against) dX10_against_30 ?_
        rw [pk_mul]
        refine ew_iadd (M := mX10_against) dX10_against_31 ?_
        rw [nI_add]
        refine ew_istore_n (M := mX10_against) dX10_against_32 (by decide) rfl ?_
        refine ew_aload_n (M := mX10_against) dX10_against_33 rfl (Or.inr (Or.inl ⟨_, rfl⟩)) ?_
        refine ew_get (M := mX10_against) dX10_against_34 fX10_7 (by repeat (first | with_reducible assumption | refine ex_eq ?_ | refine ex_ne ?_ (by omega) | exact ex_lt (by with_reducible assumption) | rw [List.length_set] | assumption)) (by rfl) ?_
        refine ew_iload_n (M := mX10_against) dX10_against_37 rfl ?_
        refine ew_iald (M := mX10_against) (1394 + 82 * i) dX10_against_38 (by repeat (first | with_reducible assumption | refine ex_eq ?_ | refine ex_ne ?_ (by omega) | exact ex_lt (by with_reducible assumption) | rw [List.length_set] | assumption)) ⟨rfl, by omega, by decide⟩ ?_
        rw [v0]
        refine ew_aload_n (M := mX10_against) dX10_against_39 rfl (Or.inr (Or.inl ⟨_, rfl⟩)) ?_
        refine ew_get (M := mX10_against) dX10_against_40 fX10_7 (by repeat (first | with_reducible assumption | refine ex_eq ?_ | refine ex_ne ?_ (by omega) | exact ex_lt (by with_reducible assumption) | rw [List.length_set] | assumption)) (by rfl) ?_
        refine ew_iconst (M := mX10_against) dX10_against_43 (v := nI 0) (by decide) ?_
        refine ew_iald (M := mX10_against) 0 dX10_against_44 (by repeat (first | with_reducible assumption | refine ex_eq ?_ | refine ex_ne ?_ (by omega) | exact ex_lt (by with_reducible assumption) | rw [List.length_set] | assumption)) ⟨rfl, by decide, by decide⟩ ?_
        rw [hW0]
        refine ew_icmp_ne (M := mX10_against) (tgt := 65) dX10_against_45 rfl (fun h => absurd (by rw [hq.1]) h) (fun _ => ?_)
        refine ew_aload_n (M := mX10_against) dX10_against_48 rfl (Or.inr (Or.inl ⟨_, rfl⟩)) ?_
        refine ew_get (M := mX10_against) dX10_against_49 fX10_7 (by repeat (first | with_reducible assumption | refine ex_eq ?_ | refine ex_ne ?_ (by omega) | exact ex_lt (by with_reducible assumption) | rw [List.length_set] | assumption)) (by rfl) ?_
        refine ew_iload_n (M := mX10_against) dX10_against_52 rfl ?_
        refine ew_iconst (M := mX10_against) dX10_against_53 (v := nI 1) (by decide) ?_
        refine ew_iadd (M := mX10_against) dX10_against_54 ?_
        refine ew_iald (M := mX10_against) (1394 + 82 * i + 1) dX10_against_55 (by repeat (first | with_reducible assumption | refine ex_eq ?_ | refine ex_ne ?_ (by omega) | exact ex_lt (by with_reducible assumption) | rw [List.length_set] | assumption)) ⟨by rw [nI_add], by omega, by decide⟩ ?_
        rw [v1]
        refine ew_aload_n (M := mX10_against) dX10_against_56 rfl (Or.inr (Or.inl ⟨_, rfl⟩)) ?_
        refine ew_get (M := mX10_against) dX10_against_57 fX10_7 (by repeat (first | with_reducible assumption | refine ex_eq ?_ | refine ex_ne ?_ (by omega) | exact ex_lt (by with_reducible assumption) | rw [List.length_set] | assumption)) (by rfl) ?_
        refine ew_iconst (M := mX10_against) dX10_against_60 (v := nI 1) (by decide) ?_
        refine ew_iald (M := mX10_against) 1 dX10_against_61 (by repeat (first | with_reducible assumption | refine ex_eq ?_ | refine ex_ne ?_ (by omega) | exact ex_lt (by with_reducible assumption) | rw [List.length_set] | assumption)) ⟨rfl, by decide, by decide⟩ ?_
        rw [hW1]
        refine ew_icmp_eq (M := mX10_against) (tgt := 67) dX10_against_62 rfl (fun _ => ?_) (fun h => absurd (by rw [hq.2]) h)
        refine ew_iconst (M := mX10_against) dX10_against_67 (v := nI 0) (by decide) ?_
        refine ew_istore_n (M := mX10_against) dX10_against_68 (by decide) rfl ?_
        refine ew_iconst (M := mX10_against) dX10_against_69 (v := nI 0) (by decide) ?_
        refine ew_istore (M := mX10_against) dX10_against_70 (by decide) rfl ?_
        refine ew_ls [(0, .ref 86), (1, .int (nI i)), (2, .int (nI (1394 + 82 * i))), (3, .int (nI 0)), (4, .int (nI 0))] ⟨rfl, rfl, rfl, rfl, rfl, trivial⟩ ?_
        refine fl_down (F := fun j s => fl (fun a => (fun k n => if S.2.2.1.1.2.2.1 k = (S.2.2.2.2.1 i).1.2.2.1 k then (if S.2.2.1.1.2.2.2 k = (S.2.2.2.2.1 i).1.2.2.2 k then n else n + 1) else n + 1) (j * S.2.2.1.1.1 + a)) S.2.2.1.1.1 s) (P := fun j s => ex_W mX10_against (d + 1) 0 0 _ H 72 [(0, .ref 86), (1, .int (nI i)), (2, .int (nI (1394 + 82 * i))), (3, .int (nI s)), (4, .int (nI j))] [] 0 0) S.2.2.1.1.2.1 0 (fun j s hj _ ko => ?_) ?_
        · refine ew_iload (M := mX10_against) dX10_against_72 rfl ?_
          refine ew_aload_n (M := mX10_against) dX10_against_74 rfl (Or.inr (Or.inl ⟨_, rfl⟩)) ?_
          refine ew_get (M := mX10_against) dX10_against_75 fX10_7 (by repeat (first | with_reducible assumption | refine ex_eq ?_ | refine ex_ne ?_ (by omega) | exact ex_lt (by with_reducible assumption) | rw [List.length_set] | assumption)) (by rfl) ?_
          refine ew_iconst (M := mX10_against) dX10_against_78 (v := nI 1) (by decide) ?_
          refine ew_iald (M := mX10_against) 1 dX10_against_79 (by repeat (first | with_reducible assumption | refine ex_eq ?_ | refine ex_ne ?_ (by omega) | exact ex_lt (by with_reducible assumption) | rw [List.length_set] | assumption)) ⟨rfl, by decide, by decide⟩ ?_
          rw [hW1]
          refine ew_icmp_ge (M := mX10_against) (tgt := 148) dX10_against_80 rfl (fun h => absurd h (nI_ge hj (by omega))) (fun _ => ?_)
          refine ew_iconst (M := mX10_against) dX10_against_83 (v := nI 0) (by decide) ?_
          refine ew_istore (M := mX10_against) dX10_against_84 (by decide) rfl ?_
          refine ew_ls [(0, .ref 86), (1, .int (nI i)), (2, .int (nI (1394 + 82 * i))), (3, .int (nI s)), (4, .int (nI j)), (5, .int (nI 0))] ⟨rfl, rfl, rfl, rfl, rfl, rfl, trivial⟩ ?_
          refine fl_down (F := fun a => (fun k n => if S.2.2.1.1.2.2.1 k = (S.2.2.2.2.1 i).1.2.2.1 k then (if S.2.2.1.1.2.2.2 k = (S.2.2.2.2.1 i).1.2.2.2 k then n else n + 1) else n + 1) (j * S.2.2.1.1.1 + a)) (P := fun a s => ex_W mX10_against (d + 1) 0 0 _ H 86 [(0, .ref 86), (1, .int (nI i)), (2, .int (nI (1394 + 82 * i))), (3, .int (nI s)), (4, .int (nI j)), (5, .int (nI a))] [] 0 0) S.2.2.1.1.1 s (fun a s ha _ ki => ?_) ?_
          · have h82 := pl_80 hz2 hz4 ha hj
            have d1 := hWd a j ha hj
            have d2 := vd a j (by omega) (by omega)
            rw [Nat.zero_add] at d1
            rw [← hq.1] at d2
            have hb1 := hgm _ (pi_lt ha hj)
            have hb2 := vgm (j * S.2.2.1.1.1 + a) (by rw [← hq.1, ← hq.2]; exact pi_lt ha hj)
            refine ew_iload (M := mX10_against) dX10_against_86 rfl ?_
            refine ew_aload_n (M := mX10_against) dX10_against_88 rfl (Or.inr (Or.inl ⟨_, rfl⟩)) ?_
            refine ew_get (M := mX10_against) dX10_against_89 fX10_7 (by repeat (first | with_reducible assumption | refine ex_eq ?_ | refine ex_ne ?_ (by omega) | exact ex_lt (by with_reducible assumption) | rw [List.length_set] | assumption)) (by rfl) ?_
            refine ew_iconst (M := mX10_against) dX10_against_92 (v := nI 0) (by decide) ?_
            refine ew_iald (M := mX10_against) 0 dX10_against_93 (by repeat (first | with_reducible assumption | refine ex_eq ?_ | refine ex_ne ?_ (by omega) | exact ex_lt (by with_reducible assumption) | rw [List.length_set] | assumption)) ⟨rfl, by decide, by decide⟩ ?_
            rw [hW0]
            refine ew_icmp_ge (M := mX10_against) (tgt := 142) dX10_against_94 rfl (fun h => absurd h (nI_ge ha (by omega))) (fun _ => ?_)
            refine ew_iload_n (M := mX10_against) dX10_against_97 rfl ?_
            refine ew_aload_n (M := mX10_against) dX10_against_98 rfl (Or.inr (Or.inl ⟨_, rfl⟩)) ?_
            refine ew_get (M := mX10_against) dX10_against_99 fX10_7 (by repeat (first | with_reducible assumption | refine ex_eq ?_ | refine ex_ne ?_ (by omega) | exact ex_lt (by with_reducible assumption) | rw [List.length_set] | assumption)) (by rfl) ?_
            refine ew_iload_n (M := mX10_against) dX10_against_102 rfl ?_
            refine ew_aload_n (M := mX10_against) dX10_against_103 rfl (Or.inr (Or.inl ⟨_, rfl⟩)) ?_
            refine ew_iload (M := mX10_against) dX10_against_104 rfl ?_
            refine ew_iload (M := mX10_against) dX10_against_106 rfl ?_
            refine ew_callV (M := mX10_against) dX10_against_108 vX10_54 (by repeat (first | with_reducible assumption | refine ex_eq ?_ | refine ex_ne ?_ (by omega) | exact ex_lt (by with_reducible assumption) | rw [List.length_set] | assumption)) rfl (ms_place) rfl (Nat.le_of_ble_eq_true rfl) ⟨Nat.le_refl _, Nat.le_refl _⟩ rfl (fun H108 r108 q108 => ?_)
            obtain ⟨rfl, rfl⟩ := q108
            refine ew_iadd (M := mX10_against) dX10_against_111 ?_
            refine ew_iald (M := mX10_against) (1394 + 82 * i + (2 + 10 * j + a)) dX10_against_112 (by repeat (first | with_reducible assumption | refine ex_eq ?_ | refine ex_ne ?_ (by omega) | exact ex_lt (by with_reducible assumption) | rw [List.length_set] | assumption)) ⟨by rw [nI_add], by omega, by decide⟩ ?_
            rw [d2]
            refine ew_aload_n (M := mX10_against) dX10_against_113 rfl (Or.inr (Or.inl ⟨_, rfl⟩)) ?_
            refine ew_get (M := mX10_against) dX10_against_114 fX10_7 (by repeat (first | with_reducible assumption | refine ex_eq ?_ | refine ex_ne ?_ (by omega) | exact ex_lt (by with_reducible assumption) | rw [List.length_set] | assumption)) (by rfl) ?_
            refine ew_aload_n (M := mX10_against) dX10_against_117 rfl (Or.inr (Or.inl ⟨_, rfl⟩)) ?_
            refine ew_iload (M := mX10_against) dX10_against_118 rfl ?_
            refine ew_iload (M := mX10_against) dX10_against_120 rfl ?_
            refine ew_callV (M := mX10_against) dX10_against_122 vX10_54 (by repeat (first | with_reducible assumption | refine ex_eq ?_ | refine ex_ne ?_ (by omega) | exact ex_lt (by with_reducible assumption) | rw [List.length_set] | assumption)) rfl (ms_place) rfl (Nat.le_of_ble_eq_true rfl) ⟨Nat.le_refl _, Nat.le_refl _⟩ rfl (fun H122 r122 q122 => ?_)
            obtain ⟨rfl, rfl⟩ := q122
            refine ew_iald (M := mX10_against) (2 + 10 * j + a) dX10_against_125 (by repeat (first | with_reducible assumption | refine ex_eq ?_ | refine ex_ne ?_ (by omega) | exact ex_lt (by with_reducible assumption) | rw [List.length_set] | assumption)) ⟨rfl, by omega, by decide⟩ ?_
            rw [d1]
            refine ew_icmp_eq (M := mX10_against) (tgt := 133) dX10_against_126 rfl (fun c126 => ?_) (fun c126 => ?_)
            · rw [nI_eq (by omega) (by omega)] at c126
              have x1 : S.2.2.1.1.2.2.1 (j * S.2.2.1.1.1 + a) = (S.2.2.2.2.1 i).1.2.2.1 (j * S.2.2.1.1.1 + a) := by omega
              have x2 : S.2.2.1.1.2.2.2 (j * S.2.2.1.1.1 + a) = (S.2.2.2.2.1 i).1.2.2.2 (j * S.2.2.1.1.1 + a) := by omega
              simp only [x1, x2, eq_self, ↓reduceIte] at ki
              refine ew_iconst (M := mX10_against) dX10_against_133 (v := nI 0) (by decide) ?_
              refine ew_iadd (M := mX10_against) dX10_against_134 ?_
              rw [nI_add]
              refine ew_istore_n (M := mX10_against) dX10_against_135 (by decide) rfl ?_
              refine ew_iinc (M := mX10_against) dX10_against_136 rfl (ex_inc a) (by decide) rfl ?_
              refine ew_goto (M := mX10_against) (tgt := 86) dX10_against_139 rfl ?_
              refine ew_ls _ ?_ ki
              exact ⟨rfl, rfl, rfl, rfl, rfl, rfl, trivial⟩
            · rw [nI_eq (by omega) (by omega)] at c126
              have x1 : (if S.2.2.1.1.2.2.1 (j * S.2.2.1.1.1 + a) = (S.2.2.2.2.1 i).1.2.2.1 (j * S.2.2.1.1.1 + a) then (if S.2.2.1.1.2.2.2 (j * S.2.2.1.1.1 + a) = (S.2.2.2.2.1 i).1.2.2.2 (j * S.2.2.1.1.1 + a) then s else s + 1) else s + 1) = s + 1 := by
                by_cases y1 : S.2.2.1.1.2.2.1 (j * S.2.2.1.1.1 + a) = (S.2.2.2.2.1 i).1.2.2.1 (j * S.2.2.1.1.1 + a)
                · rw [if_pos y1, if_neg (by omega)]
                · rw [if_neg y1]
              simp only [x1] at ki
              refine ew_iconst (M := mX10_against) dX10_against_129 (v := nI 1) (by decide) ?_
              refine ew_goto (M := mX10_against) (tgt := 134) dX10_against_130 rfl ?_
              refine ew_iadd (M := mX10_against) dX10_against_134 ?_
              rw [nI_add]
              refine ew_istore_n (M := mX10_against) dX10_against_135 (by decide) rfl ?_
              refine ew_iinc (M := mX10_against) dX10_against_136 rfl (ex_inc a) (by decide) rfl ?_
              refine ew_goto (M := mX10_against) (tgt := 86) dX10_against_139 rfl ?_
              refine ew_ls _ ?_ ki
              exact ⟨rfl, rfl, rfl, rfl, rfl, rfl, trivial⟩
          · refine ew_iload (M := mX10_against) dX10_against_86 rfl ?_
            refine ew_aload_n (M := mX10_against) dX10_against_88 rfl (Or.inr (Or.inl ⟨_, rfl⟩)) ?_
            refine ew_get (M := mX10_against) dX10_against_89 fX10_7 (by repeat (first | with_reducible assumption | refine ex_eq ?_ | refine ex_ne ?_ (by omega) | exact ex_lt (by with_reducible assumption) | rw [List.length_set] | assumption)) (by rfl) ?_
            refine ew_iconst (M := mX10_against) dX10_against_92 (v := nI 0) (by decide) ?_
            refine ew_iald (M := mX10_against) 0 dX10_against_93 (by repeat (first | with_reducible assumption | refine ex_eq ?_ | refine ex_ne ?_ (by omega) | exact ex_lt (by with_reducible assumption) | rw [List.length_set] | assumption)) ⟨rfl, by decide, by decide⟩ ?_
            rw [hW0]
            refine ew_icmp_ge (M := mX10_against) (tgt := 142) dX10_against_94 rfl (fun _ => ?_) (fun h => absurd (nI_le (Nat.le_refl _) (by omega)) h)
            refine ew_iinc (M := mX10_against) dX10_against_142 rfl (ex_inc j) (by decide) rfl ?_
            refine ew_goto (M := mX10_against) (tgt := 72) dX10_against_145 rfl ?_
            refine ew_ls _ ?_ ko
            exact ⟨rfl, rfl, rfl, rfl, rfl, trivial⟩
        · refine ew_iload (M := mX10_against) dX10_against_72 rfl ?_
          refine ew_aload_n (M := mX10_against) dX10_against_74 rfl (Or.inr (Or.inl ⟨_, rfl⟩)) ?_
          refine ew_get (M := mX10_against) dX10_against_75 fX10_7 (by repeat (first | with_reducible assumption | refine ex_eq ?_ | refine ex_ne ?_ (by omega) | exact ex_lt (by with_reducible assumption) | rw [List.length_set] | assumption)) (by rfl) ?_
          refine ew_iconst (M := mX10_against) dX10_against_78 (v := nI 1) (by decide) ?_
          refine ew_iald (M := mX10_against) 1 dX10_against_79 (by repeat (first | with_reducible assumption | refine ex_eq ?_ | refine ex_ne ?_ (by omega) | exact ex_lt (by with_reducible assumption) | rw [List.length_set] | assumption)) ⟨rfl, by decide, by decide⟩ ?_
          rw [hW1]
          refine ew_icmp_ge (M := mX10_against) (tgt := 148) dX10_against_80 rfl (fun _ => ?_) (fun h => absurd (nI_le (Nat.le_refl _) (by omega)) h)
          refine ew_iload_n (M := mX10_against) dX10_against_148 rfl ?_
          refine ew_iret (M := mX10_against) dX10_against_149 rfl (by first | rfl | decide) (Nat.le_refl _) (Nat.le_refl _) ?_
          exact ⟨by rw [ef], ex_ch.rf, by rw [ef]; exact ⟨_, _, _, _, hS⟩⟩
      · have ef : f_against S (nI i) = (-1, S) := by
          unfold f_against f_againstV
          rw [cif_y hx, nI_clamp (by omega), cif_n hk, cif_n hq]
        refine ex_meth [(0, .ref 86), (1, .int (nI i))] rfl rfl rfl (fun b => Nat.le_of_ble_eq_true rfl) ?_
        refine ew_iload_n (M := mX10_against) dX10_against_0 rfl ?_
        refine ew_i2l (M := mX10_against) dX10_against_1 ?_
        refine ew_lconst (M := mX10_against) dX10_against_2 (v := 0) (by decide) ?_
        refine ew_lconst (M := mX10_against) dX10_against_3 (v := 1) (by decide) ?_
        refine ew_callS (M := mX10_against) dX10_against_4 vX10_58 (ms_in_y (l := nI 0) (g := nI 1) (by decide) (by decide) hx.1 hx.2) rfl (Nat.le_of_ble_eq_true rfl) ⟨Nat.le_refl _, Nat.le_refl _⟩ rfl (fun H4 r4 q4 => ?_)
        obtain ⟨rfl, rfl⟩ := q4
        refine ew_if_ne (M := mX10_against) (tgt := 13) dX10_against_7 rfl (fun _ => ?_) (fun h => absurd h (by decide))
        refine ew_aload_n (M := mX10_against) dX10_against_13 rfl (Or.inr (Or.inl ⟨_, rfl⟩)) ?_
        refine ew_iload_n (M := mX10_against) dX10_against_14 rfl ?_
        refine ew_callV (M := mX10_against) dX10_against_15 vX10_224 (by repeat (first | with_reducible assumption | refine ex_eq ?_ | refine ex_ne ?_ (by omega) | exact ex_lt (by with_reducible assumption) | rw [List.length_set] | assumption)) rfl (ms_isKept hS (by omega)) rfl (Nat.le_of_ble_eq_true rfl) ⟨Nat.le_refl _, Nat.le_refl _⟩ rfl (fun H15 r15 q15 => ?_)
        obtain ⟨rfl, rfl⟩ := q15
        rw [hk1]
        refine ew_if_ne (M := mX10_against) (tgt := 24) dX10_against_18 rfl (fun _ => ?_) (fun h => absurd h (by decide))
        refine ew_sipush (M := mX10_against) dX10_against_24 (v := nI 1394) (by decide) ?_
        refine ew_bipush (M := mX10_against) dX10_against_27 (v := nI 82) (by decide) ?_
        refine ew_iload_n (M := mX10_against) dX10_against_29 rfl ?_
        refine ew_imul (M := mX10_against) dX10_against_30 ?_
        rw [pk_mul]
        refine ew_iadd (M := mX10_against) dX10_against_31 ?_
        rw [nI_add]
        refine ew_istore_n (M := mX10_against) dX10_against_32 (by decide) rfl ?_
        refine ew_aload_n (M := mX10_against) dX10_against_33 rfl (Or.inr (Or.inl ⟨_, rfl⟩)) ?_
        refine ew_get (M := mX10_against) dX10_against_34 fX10_7 (by repeat (first | with_reducible assumption | refine ex_eq ?_ | refine ex_ne ?_ (by omega) | exact ex_lt (by with_reducible assumption) | rw [List.length_set] | assumption)) (by rfl) ?_
        refine ew_iload_n (M := mX10_against) dX10_against_37 rfl ?_
        refine ew_iald (M := mX10_against) (1394 + 82 * i) dX10_against_38 (by repeat (first | with_reducible assumption | refine ex_eq ?_ | refine ex_ne ?_ (by omega) | exact ex_lt (by with_reducible assumption) | rw [List.length_set] | assumption)) ⟨rfl, by omega, by decide⟩ ?_
        rw [v0]
        refine ew_aload_n (M := mX10_against) dX10_against_39 rfl (Or.inr (Or.inl ⟨_, rfl⟩)) ?_
        refine ew_get (M := mX10_against) dX10_against_40 fX10_7 (by repeat (first | with_reducible assumption | refine ex_eq ?_ | refine ex_ne ?_ (by omega) | exact ex_lt (by with_reducible assumption) | rw [List.length_set] | assumption)) (by rfl) ?_
        refine ew_iconst (M := mX10_against) dX10_against_43 (v := nI 0) (by decide) ?_
        refine ew_iald (M := mX10_against) 0 dX10_against_44 (by repeat (first | with_reducible assumption | refine ex_eq ?_ | refine ex_ne ?_ (by omega) | exact ex_lt (by with_reducible assumption) | rw [List.length_set] | assumption)) ⟨rfl, by decide, by decide⟩ ?_
        rw [hW0]
        refine ew_icmp_ne (M := mX10_against) (tgt := 65) dX10_against_45 rfl (fun c45 => ?_) (fun c45 => ?_)
        · refine ew_iconst (M := mX10_against) dX10_against_65 (v := (-1)) (by decide) ?_
          refine ew_iret (M := mX10_against) dX10_against_66 rfl (by first | rfl | decide) (Nat.le_refl _) (Nat.le_refl _) ?_
          exact ⟨by rw [ef], ex_ch.rf, by rw [ef]; exact ⟨_, _, _, _, hS⟩⟩
        · refine ew_aload_n (M := mX10_against) dX10_against_48 rfl (Or.inr (Or.inl ⟨_, rfl⟩)) ?_
          refine ew_get (M := mX10_against) dX10_against_49 fX10_7 (by repeat (first | with_reducible assumption | refine ex_eq ?_ | refine ex_ne ?_ (by omega) | exact ex_lt (by with_reducible assumption) | rw [List.length_set] | assumption)) (by rfl) ?_
          refine ew_iload_n (M := mX10_against) dX10_against_52 rfl ?_
          refine ew_iconst (M := mX10_against) dX10_against_53 (v := nI 1) (by decide) ?_
          refine ew_iadd (M := mX10_against) dX10_against_54 ?_
          refine ew_iald (M := mX10_against) (1394 + 82 * i + 1) dX10_against_55 (by repeat (first | with_reducible assumption | refine ex_eq ?_ | refine ex_ne ?_ (by omega) | exact ex_lt (by with_reducible assumption) | rw [List.length_set] | assumption)) ⟨by rw [nI_add], by omega, by decide⟩ ?_
          rw [v1]
          refine ew_aload_n (M := mX10_against) dX10_against_56 rfl (Or.inr (Or.inl ⟨_, rfl⟩)) ?_
          refine ew_get (M := mX10_against) dX10_against_57 fX10_7 (by repeat (first | with_reducible assumption | refine ex_eq ?_ | refine ex_ne ?_ (by omega) | exact ex_lt (by with_reducible assumption) | rw [List.length_set] | assumption)) (by rfl) ?_
          refine ew_iconst (M := mX10_against) dX10_against_60 (v := nI 1) (by decide) ?_
          refine ew_iald (M := mX10_against) 1 dX10_against_61 (by repeat (first | with_reducible assumption | refine ex_eq ?_ | refine ex_ne ?_ (by omega) | exact ex_lt (by with_reducible assumption) | rw [List.length_set] | assumption)) ⟨rfl, by decide, by decide⟩ ?_
          rw [hW1]
          refine ew_icmp_eq (M := mX10_against) (tgt := 67) dX10_against_62 rfl (fun c62 => ?_) (fun c62 => ?_)
          · rw [nI_eq (by omega) (by omega)] at c45 c62
            exact absurd ⟨c45.symm, c62.symm⟩ hq
          · refine ew_iconst (M := mX10_against) dX10_against_65 (v := (-1)) (by decide) ?_
            refine ew_iret (M := mX10_against) dX10_against_66 rfl (by first | rfl | decide) (Nat.le_refl _) (Nat.le_refl _) ?_
            exact ⟨by rw [ef], ex_ch.rf, by rw [ef]; exact ⟨_, _, _, _, hS⟩⟩
  · have ef : f_against S i = (-1000000001, S) := by
      unfold f_against
      rw [cif_n hx]
    refine ex_meth [(0, .ref 86), (1, .int i)] rfl rfl rfl (fun b => Nat.le_of_ble_eq_true rfl) ?_
    refine ew_iload_n (M := mX10_against) dX10_against_0 rfl ?_
    refine ew_i2l (M := mX10_against) dX10_against_1 ?_
    refine ew_lconst (M := mX10_against) dX10_against_2 (v := 0) (by decide) ?_
    refine ew_lconst (M := mX10_against) dX10_against_3 (v := 1) (by decide) ?_
    refine ew_callS (M := mX10_against) dX10_against_4 vX10_58 (ms_in_n (l := nI 0) (g := nI 1) (by decide) (by decide) hx) rfl (Nat.le_of_ble_eq_true rfl) ⟨Nat.le_refl _, Nat.le_refl _⟩ rfl (fun H4 r4 q4 => ?_)
    obtain ⟨rfl, rfl⟩ := q4
    refine ew_if_ne (M := mX10_against) (tgt := 13) dX10_against_7 rfl (fun h => absurd (by decide) h) (fun _ => ?_)
    refine ew_ldc (M := mX10_against) dX10_against_10 kX10_175 ?_
    refine ew_iret (M := mX10_against) dX10_against_12 rfl (by first | rfl | decide) (Nat.le_refl _) (Nat.le_refl _) ?_
    exact ⟨by rw [ef], ex_ch.rf, by rw [ef]; exact ⟨_, _, _, _, hS⟩⟩
theorem nI_sb {a b : Nat} (h : b ≤ a) : nI a - nI b = nI (a - b) := by
  obtain ⟨k, rfl⟩ : ∃ k, a = k + b := ⟨a - b, by omega⟩
  rw [← nI_add, Int32.add_sub_cancel, show k + b - b = k by omega]
theorem tu_src {P : PT} {how i j : Nat} (hh : how < 4) (hi : i < (tuP P how).1) (hj : j < (tuP P how).2.1) : tu_x how (tuP P how).1 i j < P.1 ∧ tu_y how (tuP P how).2.1 i j < P.2.1 := by
  rcases (show how = 0 ∨ how = 1 ∨ how = 2 ∨ how = 3 by omega) with rfl | rfl | rfl | rfl <;> simp [tuP, tu_x, tu_y] at * <;> omega
def tuS (P : PT) (how i j : Nat) : Nat := tu_y how (tuP P how).2.1 i j * P.1 + tu_x how (tuP P how).1 i j
theorem tu_gm {P : PT} {how i j : Nat} (hi : i < (tuP P how).1) : (tuP P how).2.2.1 (j * (tuP P how).1 + i) = (if how = 3 then 255 - P.2.2.1 (tuS P how i j) else P.2.2.1 (tuS P how i j)) ∧ (tuP P how).2.2.2 (j * (tuP P how).1 + i) = P.2.2.2 (tuS P how i j) := by
  have e := tu_at (w := (tuP P how).1) (j := j) hi
  refine ⟨?_, ?_⟩
  · show tu_g how (tuP P how).1 (tuP P how).2.1 P.1 P.2.2.1 (j * (tuP P how).1 + i) = _
    unfold tu_g
    rw [e.1, e.2]
    rfl
  · show tu_m how (tuP P how).1 (tuP P how).2.1 P.1 P.2.2.2 (j * (tuP P how).1 + i) = _
    unfold tu_m
    rw [e.1, e.2]
    rfl
theorem tuP_ok {P : PT} {how : Nat} (hh : how < 4) (h : pi_ok P.1 P.2.1 P.2.2.1 P.2.2.2) (h2 : how = 2 → P.1 ≤ 8) : pi_ok (tuP P how).1 (tuP P how).2.1 (tuP P how).2.2.1 (tuP P how).2.2.2 := by
  obtain ⟨⟨z1, z2, z3, z4⟩, hg⟩ := h
  refine ⟨?_, fun k hk => ?_⟩
  · rcases (show how = 0 ∨ how = 1 ∨ how = 2 ∨ how = 3 by omega) with rfl | rfl | rfl | rfl <;> simp [tuP, pi_sz] at * <;> omega
  · obtain ⟨i, j, hi, hj, rfl⟩ := tu_split hk
    obtain ⟨e1, e2⟩ := tu_gm (j := j) hi
    obtain ⟨s1, s2⟩ := tu_src hh hi hj
    have := hg _ (pi_lt s1 s2)
    have e3 : tuS P how i j = tu_y how (tuP P how).2.1 i j * P.1 + tu_x how (tuP P how).1 i j := rfl
    rw [← e3] at this
    rw [e1, e2]
    split <;> omega
theorem ms_turnedFrom {d : Nat} {H : ex_H} {rest : List Value} {W : Nat → Int32} {P : PT} {how i j : Nat} (a1 : H[86]? = some (ob 10 (.ref 87 :: rest))) (a2 : H[87]? = some (ar .int 1558 W)) (hW0 : W 0 = nI (tuP P how).1) (hW1 : W 1 = nI (tuP P how).2.1) (hm : mw W 82 P) (hh : how < 4) (hi : i < (tuP P how).1) (hj : j < (tuP P how).2.1) : ex_Met mX10_turnedFrom (d + 1) 0 0 H [.ref 86, .int (nI how), .int (nI i), .int (nI j)] (ex_r H (.int (nI ((tuP P how).2.2.1 (j * (tuP P how).1 + i) + 256 * (tuP P how).2.2.2 (j * (tuP P how).1 + i))))) := by
  obtain ⟨⟨⟨z1, z2, z3, z4⟩, hg⟩, -, -, hd⟩ := hm
  obtain ⟨s1, s2⟩ := tu_src hh hi hj
  have h82 := pl_80 z2 z4 s1 s2
  have dd := hd _ _ s1 s2
  have gg := hg _ (pi_lt s1 s2)
  obtain ⟨e1, e2⟩ := tu_gm (j := j) hi
  have e3 : tuS P how i j = tu_y how (tuP P how).2.1 i j * P.1 + tu_x how (tuP P how).1 i j := rfl
  rw [e1, e2]
  rw [← e3] at dd gg
  generalize tuS P how i j = k at e1 e2 dd gg ⊢
  have hr : nI (P.2.2.1 k + 256 * P.2.2.2 k) - nI (P.2.2.1 k + 256 * P.2.2.2 k) / nI 256 * nI 256 = nI (P.2.2.1 k) := by
    rw [pk_rem (by omega) (by decide) (by decide)]
    congr 1
    omega
  rcases (show how = 0 ∨ how = 1 ∨ how = 2 ∨ how = 3 by omega) with rfl | rfl | rfl | rfl
  · have dd' : W (82 + (2 + 10 * j + ((tuP P 0).1 - 1 - i))) = nI (P.2.2.1 k + 256 * P.2.2.2 k) := dd
    have hb' : 2 + 10 * j + ((tuP P 0).1 - 1 - i) < 82 := h82
    have e4 : (if 0 = 3 then 255 - P.2.2.1 k else P.2.2.1 k) = P.2.2.1 k := if_neg (by decide)
    rw [e4]
    refine ex_meth [(0, .ref 86), (1, .int (nI 0)), (2, .int (nI i)), (3, .int (nI j))] rfl rfl rfl (fun b => Nat.le_of_ble_eq_true rfl) ?_
    refine ew_bipush (M := mX10_turnedFrom) dX10_turnedFrom_0 (v := nI 82) (by decide) ?_
    refine ew_iload_n (M := mX10_turnedFrom) dX10_turnedFrom_2 rfl ?_
    refine ew_if_ne (M := mX10_turnedFrom) (tgt := 24) dX10_turnedFrom_3 rfl (fun h => absurd rfl h) (fun _ => ?_)
    refine ew_aload_n (M := mX10_turnedFrom) dX10_turnedFrom_6 rfl (Or.inr (Or.inl ⟨_, rfl⟩)) ?_
    refine ew_aload_n (M := mX10_turnedFrom) dX10_turnedFrom_7 rfl (Or.inr (Or.inl ⟨_, rfl⟩)) ?_
    refine ew_get (M := mX10_turnedFrom) dX10_turnedFrom_8 fX10_7 (by repeat (first | with_reducible assumption | refine ex_eq ?_ | refine ex_ne ?_ (by omega) | exact ex_lt (by with_reducible assumption) | rw [List.length_set] | assumption)) (by rfl) ?_
    refine ew_iconst (M := mX10_turnedFrom) dX10_turnedFrom_11 (v := nI 0) (by decide) ?_
    refine ew_iald (M := mX10_turnedFrom) 0 dX10_turnedFrom_12 (by repeat (first | with_reducible assumption | refine ex_eq ?_ | refine ex_ne ?_ (by omega) | exact ex_lt (by with_reducible assumption) | rw [List.length_set] | assumption)) ⟨rfl, by decide, by decide⟩ ?_
    rw [hW0]
    refine ew_iconst (M := mX10_turnedFrom) dX10_turnedFrom_13 (v := nI 1) (by decide) ?_
    refine ew_isub (M := mX10_turnedFrom) dX10_turnedFrom_14 ?_
    rw [nI_sb (by omega)]
    refine ew_iload_n (M := mX10_turnedFrom) dX10_turnedFrom_15 rfl ?_
    refine ew_isub (M := mX10_turnedFrom) dX10_turnedFrom_16 ?_
    rw [nI_sb (by omega)]
    refine ew_iload_n (M := mX10_turnedFrom) dX10_turnedFrom_17 rfl ?_
    refine ew_callV (M := mX10_turnedFrom) dX10_turnedFrom_18 vX10_54 (by repeat (first | with_reducible assumption | refine ex_eq ?_ | refine ex_ne ?_ (by omega) | exact ex_lt (by with_reducible assumption) | rw [List.length_set] | assumption)) rfl (ms_place) rfl (Nat.le_of_ble_eq_true rfl) ⟨Nat.le_refl _, Nat.le_refl _⟩ rfl (fun H18 r18 q18 => ?_)
    obtain ⟨rfl, rfl⟩ := q18
    refine ew_goto (M := mX10_turnedFrom) (tgt := 67) dX10_turnedFrom_21 rfl ?_
    refine ew_iadd (M := mX10_turnedFrom) dX10_turnedFrom_67 ?_
    rw [nI_add]
    refine ew_istore (M := mX10_turnedFrom) dX10_turnedFrom_68 (by decide) rfl ?_
    refine ew_aload_n (M := mX10_turnedFrom) dX10_turnedFrom_70 rfl (Or.inr (Or.inl ⟨_, rfl⟩)) ?_
    refine ew_get (M := mX10_turnedFrom) dX10_turnedFrom_71 fX10_7 (by repeat (first | with_reducible assumption | refine ex_eq ?_ | refine ex_ne ?_ (by omega) | exact ex_lt (by with_reducible assumption) | rw [List.length_set] | assumption)) (by rfl) ?_
    refine ew_iload (M := mX10_turnedFrom) dX10_turnedFrom_74 rfl ?_
    refine ew_iald (M := mX10_turnedFrom) (82 + (2 + 10 * j + ((tuP P 0).1 - 1 - i))) dX10_turnedFrom_76 (by repeat (first | with_reducible assumption | refine ex_eq ?_ | refine ex_ne ?_ (by omega) | exact ex_lt (by with_reducible assumption) | rw [List.length_set] | assumption)) ⟨rfl, by omega, by decide⟩ ?_
    rw [dd']
    refine ew_sipush (M := mX10_turnedFrom) dX10_turnedFrom_77 (v := nI 256) (by decide) ?_
    refine ew_irem (M := mX10_turnedFrom) dX10_turnedFrom_80 (by decide) ?_
    rw [hr]
    refine ew_istore (M := mX10_turnedFrom) dX10_turnedFrom_81 (by decide) rfl ?_
    refine ew_iload_n (M := mX10_turnedFrom) dX10_turnedFrom_83 rfl ?_
    refine ew_iconst (M := mX10_turnedFrom) dX10_turnedFrom_84 (v := nI 3) (by decide) ?_
    refine ew_icmp_ne (M := mX10_turnedFrom) (tgt := 108) dX10_turnedFrom_85 rfl (fun _ => ?_) (fun h => absurd h (by decide))
    refine ew_aload_n (M := mX10_turnedFrom) dX10_turnedFrom_108 rfl (Or.inr (Or.inl ⟨_, rfl⟩)) ?_
    refine ew_get (M := mX10_turnedFrom) dX10_turnedFrom_109 fX10_7 (by repeat (first | with_reducible assumption | refine ex_eq ?_ | refine ex_ne ?_ (by omega) | exact ex_lt (by with_reducible assumption) | rw [List.length_set] | assumption)) (by rfl) ?_
    refine ew_iload (M := mX10_turnedFrom) dX10_turnedFrom_112 rfl ?_
    refine ew_iald (M := mX10_turnedFrom) (82 + (2 + 10 * j + ((tuP P 0).1 - 1 - i))) dX10_turnedFrom_114 (by repeat (first | with_reducible assumption | refine ex_eq ?_ | refine ex_ne ?_ (by omega) | exact ex_lt (by with_reducible assumption) | rw [List.length_set] | assumption)) ⟨rfl, by omega, by decide⟩ ?_
    rw [dd']
    refine ew_iret (M := mX10_turnedFrom) dX10_turnedFrom_115 rfl (by first | rfl | decide) (Nat.le_refl _) (Nat.le_refl _) ?_
    exact ⟨rfl, rfl⟩
  · have dd' : W (82 + (2 + 10 * ((tuP P 1).2.1 - 1 - j) + i)) = nI (P.2.2.1 k + 256 * P.2.2.2 k) := dd
    have hb' : 2 + 10 * ((tuP P 1).2.1 - 1 - j) + i < 82 := h82
    have e4 : (if 1 = 3 then 255 - P.2.2.1 k else P.2.2.1 k) = P.2.2.1 k := if_neg (by decide)
    rw [e4]
    refine ex_meth [(0, .ref 86), (1, .int (nI 1)), (2, .int (nI i)), (3, .int (nI j))] rfl rfl rfl (fun b => Nat.le_of_ble_eq_true rfl) ?_
    refine ew_bipush (M := mX10_turnedFrom) dX10_turnedFrom_0 (v := nI 82) (by decide) ?_
    refine ew_iload_n (M := mX10_turnedFrom) dX10_turnedFrom_2 rfl ?_
    refine ew_if_ne (M := mX10_turnedFrom) (tgt := 24) dX10_turnedFrom_3 rfl (fun _ => ?_) (fun h => absurd h (by decide))
    refine ew_iload_n (M := mX10_turnedFrom) dX10_turnedFrom_24 rfl ?_
    refine ew_iconst (M := mX10_turnedFrom) dX10_turnedFrom_25 (v := nI 1) (by decide) ?_
    refine ew_icmp_ne (M := mX10_turnedFrom) (tgt := 47) dX10_turnedFrom_26 rfl (fun h => absurd rfl h) (fun _ => ?_)
    refine ew_aload_n (M := mX10_turnedFrom) dX10_turnedFrom_29 rfl (Or.inr (Or.inl ⟨_, rfl⟩)) ?_
    refine ew_iload_n (M := mX10_turnedFrom) dX10_turnedFrom_30 rfl ?_
    refine ew_aload_n (M := mX10_turnedFrom) dX10_turnedFrom_31 rfl (Or.inr (Or.inl ⟨_, rfl⟩)) ?_
    refine ew_get (M := mX10_turnedFrom) dX10_turnedFrom_32 fX10_7 (by repeat (first | with_reducible assumption | refine ex_eq ?_ | refine ex_ne ?_ (by omega) | exact ex_lt (by with_reducible assumption) | rw [List.length_set] | assumption)) (by rfl) ?_
    refine ew_iconst (M := mX10_turnedFrom) dX10_turnedFrom_35 (v := nI 1) (by decide) ?_
    refine ew_iald (M := mX10_turnedFrom) 1 dX10_turnedFrom_36 (by repeat (first | with_reducible assumption | refine ex_eq ?_ | refine ex_ne ?_ (by omega) | exact ex_lt (by with_reducible assumption) | rw [List.length_set] | assumption)) ⟨rfl, by decide, by decide⟩ ?_
    rw [hW1]
    refine ew_iconst (M := mX10_turnedFrom) dX10_turnedFrom_37 (v := nI 1) (by decide) ?_
    refine ew_isub (M := mX10_turnedFrom) dX10_turnedFrom_38 ?_
    rw [nI_sb (by omega)]
    refine ew_iload_n (M := mX10_turnedFrom) dX10_turnedFrom_39 rfl ?_
    refine ew_isub (M := mX10_turnedFrom) dX10_turnedFrom_40 ?_
    rw [nI_sb (by omega)]
    refine ew_callV (M := mX10_turnedFrom) dX10_turnedFrom_41 vX10_54 (by repeat (first | with_reducible assumption | refine ex_eq ?_ | refine ex_ne ?_ (by omega) | exact ex_lt (by with_reducible assumption) | rw [List.length_set] | assumption)) rfl (ms_place) rfl (Nat.le_of_ble_eq_true rfl) ⟨Nat.le_refl _, Nat.le_refl _⟩ rfl (fun H41 r41 q41 => ?_)
    obtain ⟨rfl, rfl⟩ := q41
    refine ew_goto (M := mX10_turnedFrom) (tgt := 67) dX10_turnedFrom_44 rfl ?_
    refine ew_iadd (M := mX10_turnedFrom) dX10_turnedFrom_67 ?_
    rw [nI_add]
    refine ew_istore (M := mX10_turnedFrom) dX10_turnedFrom_68 (by decide) rfl ?_
    refine ew_aload_n (M := mX10_turnedFrom) dX10_turnedFrom_70 rfl (Or.inr (Or.inl ⟨_, rfl⟩)) ?_
    refine ew_get (M := mX10_turnedFrom) dX10_turnedFrom_71 fX10_7 (by repeat (first | with_reducible assumption | refine ex_eq ?_ | refine ex_ne ?_ (by omega) | exact ex_lt (by with_reducible assumption) | rw [List.length_set] | assumption)) (by rfl) ?_
    refine ew_iload (M := mX10_turnedFrom) dX10_turnedFrom_74 rfl ?_
    refine ew_iald (M := mX10_turnedFrom) (82 + (2 + 10 * ((tuP P 1).2.1 - 1 - j) + i)) dX10_turnedFrom_76 (by repeat (first | with_reducible assumption | refine ex_eq ?_ | refine ex_ne ?_ (by omega) | exact ex_lt (by with_reducible assumption) | rw [List.length_set] | assumption)) ⟨rfl, by omega, by decide⟩ ?_
    rw [dd']
    refine ew_sipush (M := mX10_turnedFrom) dX10_turnedFrom_77 (v := nI 256) (by decide) ?_
    refine ew_irem (M := mX10_turnedFrom) dX10_turnedFrom_80 (by decide) ?_
    rw [hr]
    refine ew_istore (M := mX10_turnedFrom) dX10_turnedFrom_81 (by decide) rfl ?_
    refine ew_iload_n (M := mX10_turnedFrom) dX10_turnedFrom_83 rfl ?_
    refine ew_iconst (M := mX10_turnedFrom) dX10_turnedFrom_84 (v := nI 3) (by decide) ?_
    refine ew_icmp_ne (M := mX10_turnedFrom) (tgt := 108) dX10_turnedFrom_85 rfl (fun _ => ?_) (fun h => absurd h (by decide))
    refine ew_aload_n (M := mX10_turnedFrom) dX10_turnedFrom_108 rfl (Or.inr (Or.inl ⟨_, rfl⟩)) ?_
    refine ew_get (M := mX10_turnedFrom) dX10_turnedFrom_109 fX10_7 (by repeat (first | with_reducible assumption | refine ex_eq ?_ | refine ex_ne ?_ (by omega) | exact ex_lt (by with_reducible assumption) | rw [List.length_set] | assumption)) (by rfl) ?_
    refine ew_iload (M := mX10_turnedFrom) dX10_turnedFrom_112 rfl ?_
    refine ew_iald (M := mX10_turnedFrom) (82 + (2 + 10 * ((tuP P 1).2.1 - 1 - j) + i)) dX10_turnedFrom_114 (by repeat (first | with_reducible assumption | refine ex_eq ?_ | refine ex_ne ?_ (by omega) | exact ex_lt (by with_reducible assumption) | rw [List.length_set] | assumption)) ⟨rfl, by omega, by decide⟩ ?_
    rw [dd']
    refine ew_iret (M := mX10_turnedFrom) dX10_turnedFrom_115 rfl (by first | rfl | decide) (Nat.le_refl _) (Nat.le_refl _) ?_
    exact ⟨rfl, rfl⟩
  · have dd' : W (82 + (2 + 10 * i + j)) = nI (P.2.2.1 k + 256 * P.2.2.2 k) := dd
    have hb' : 2 + 10 * i + j < 82 := h82
    have e4 : (if 2 = 3 then 255 - P.2.2.1 k else P.2.2.1 k) = P.2.2.1 k := if_neg (by decide)
    rw [e4]
    refine ex_meth [(0, .ref 86), (1, .int (nI 2)), (2, .int (nI i)), (3, .int (nI j))] rfl rfl rfl (fun b => Nat.le_of_ble_eq_true rfl) ?_
    refine ew_bipush (M := mX10_turnedFrom) dX10_turnedFrom_0 (v := nI 82) (by decide) ?_
    refine ew_iload_n (M := mX10_turnedFrom) dX10_turnedFrom_2 rfl ?_
    refine ew_if_ne (M := mX10_turnedFrom) (tgt := 24) dX10_turnedFrom_3 rfl (fun _ => ?_) (fun h => absurd h (by decide))
    refine ew_iload_n (M := mX10_turnedFrom) dX10_turnedFrom_24 rfl ?_
    refine ew_iconst (M := mX10_turnedFrom) dX10_turnedFrom_25 (v := nI 1) (by decide) ?_
    refine ew_icmp_ne (M := mX10_turnedFrom) (tgt := 47) dX10_turnedFrom_26 rfl (fun _ => ?_) (fun h => absurd h (by decide))
    refine ew_iload_n (M := mX10_turnedFrom) dX10_turnedFrom_47 rfl ?_
    refine ew_iconst (M := mX10_turnedFrom) dX10_turnedFrom_48 (v := nI 2) (by decide) ?_
    refine ew_icmp_ne (M := mX10_turnedFrom) (tgt := 61) dX10_turnedFrom_49 rfl (fun h => absurd rfl h) (fun _ => ?_)
    refine ew_aload_n (M := mX10_turnedFrom) dX10_turnedFrom_52 rfl (Or.inr (Or.inl ⟨_, rfl⟩)) ?_
    refine ew_iload_n (M := mX10_turnedFrom) dX10_turnedFrom_53 rfl ?_
    refine ew_iload_n (M := mX10_turnedFrom) dX10_turnedFrom_54 rfl ?_
    refine ew_callV (M := mX10_turnedFrom) dX10_turnedFrom_55 vX10_54 (by repeat (first | with_reducible assumption | refine ex_eq ?_ | refine ex_ne ?_ (by omega) | exact ex_lt (by with_reducible assumption) | rw [List.length_set] | assumption)) rfl (ms_place) rfl (Nat.le_of_ble_eq_true rfl) ⟨Nat.le_refl _, Nat.le_refl _⟩ rfl (fun H55 r55 q55 => ?_)
    obtain ⟨rfl, rfl⟩ := q55
    refine ew_goto (M := mX10_turnedFrom) (tgt := 67) dX10_turnedFrom_58 rfl ?_
    refine ew_iadd (M := mX10_turnedFrom) dX10_turnedFrom_67 ?_
    rw [nI_add]
    refine ew_istore (M := mX10_turnedFrom) dX10_turnedFrom_68 (by decide) rfl ?_
    refine ew_aload_n (M := mX10_turnedFrom) dX10_turnedFrom_70 rfl (Or.inr (Or.inl ⟨_, rfl⟩)) ?_
    refine ew_get (M := mX10_turnedFrom) dX10_turnedFrom_71 fX10_7 (by repeat (first | with_reducible assumption | refine ex_eq ?_ | refine ex_ne ?_ (by omega) | exact ex_lt (by with_reducible assumption) | rw [List.length_set] | assumption)) (by rfl) ?_
    refine ew_iload (M := mX10_turnedFrom) dX10_turnedFrom_74 rfl ?_
    refine ew_iald (M := mX10_turnedFrom) (82 + (2 + 10 * i + j)) dX10_turnedFrom_76 (by repeat (first | with_reducible assumption | refine ex_eq ?_ | refine ex_ne ?_ (by omega) | exact ex_lt (by with_reducible assumption) | rw [List.length_set] | assumption)) ⟨rfl, by omega, by decide⟩ ?_
    rw [dd']
    refine ew_sipush (M := mX10_turnedFrom) dX10_turnedFrom_77 (v := nI 256) (by decide) ?_
    refine ew_irem (M := mX10_turnedFrom) dX10_turnedFrom_80 (by decide) ?_
    rw [hr]
    refine ew_istore (M := mX10_turnedFrom) dX10_turnedFrom_81 (by decide) rfl ?_
    refine ew_iload_n (M := mX10_turnedFrom) dX10_turnedFrom_83 rfl ?_
    refine ew_iconst (M := mX10_turnedFrom) dX10_turnedFrom_84 (v := nI 3) (by decide) ?_
    refine ew_icmp_ne (M := mX10_turnedFrom) (tgt := 108) dX10_turnedFrom_85 rfl (fun _ => ?_) (fun h => absurd h (by decide))
    refine ew_aload_n (M := mX10_turnedFrom) dX10_turnedFrom_108 rfl (Or.inr (Or.inl ⟨_, rfl⟩)) ?_
    refine ew_get (M := mX10_turnedFrom) dX10_turnedFrom_109 fX10_7 (by repeat (first | with_reducible assumption | refine ex_eq ?_ | refine ex_ne ?_ (by omega) | exact ex_lt (by with_reducible assumption) | rw [List.length_set] | assumption)) (by rfl) ?_
    refine ew_iload (M := mX10_turnedFrom) dX10_turnedFrom_112 rfl ?_
    refine ew_iald (M := mX10_turnedFrom) (82 + (2 + 10 * i + j)) dX10_turnedFrom_114 (by repeat (first | with_reducible assumption | refine ex_eq ?_ | refine ex_ne ?_ (by omega) | exact ex_lt (by with_reducible assumption) | rw [List.length_set] | assumption)) ⟨rfl, by omega, by decide⟩ ?_
    rw [dd']
    refine ew_iret (M := mX10_turnedFrom) dX10_turnedFrom_115 rfl (by first | rfl | decide) (Nat.le_refl _) (Nat.le_refl _) ?_
    exact ⟨rfl, rfl⟩
  · have dd' : W (82 + (2 + 10 * j + i)) = nI (P.2.2.1 k + 256 * P.2.2.2 k) := dd
    have hb' : 2 + 10 * j + i < 82 := h82
    have e4 : (if 3 = 3 then 255 - P.2.2.1 k else P.2.2.1 k) = 255 - P.2.2.1 k := if_pos rfl
    rw [e4]
    refine ex_meth [(0, .ref 86), (1, .int (nI 3)), (2, .int (nI i)), (3, .int (nI j))] rfl rfl rfl (fun b => Nat.le_of_ble_eq_true rfl) ?_
    refine ew_bipush (M := mX10_turnedFrom) dX10_turnedFrom_0 (v := nI 82) (by decide) ?_
    refine ew_iload_n (M := mX10_turnedFrom) dX10_turnedFrom_2 rfl ?_
    refine ew_if_ne (M := mX10_turnedFrom) (tgt := 24) dX10_turnedFrom_3 rfl (fun _ => ?_) (fun h => absurd h (by decide))
    refine ew_iload_n (M := mX10_turnedFrom) dX10_turnedFrom_24 rfl ?_
    refine ew_iconst (M := mX10_turnedFrom) dX10_turnedFrom_25 (v := nI 1) (by decide) ?_
    refine ew_icmp_ne (M := mX10_turnedFrom) (tgt := 47) dX10_turnedFrom_26 rfl (fun _ => ?_) (fun h => absurd h (by decide))
    refine ew_iload_n (M := mX10_turnedFrom) dX10_turnedFrom_47 rfl ?_
    refine ew_iconst (M := mX10_turnedFrom) dX10_turnedFrom_48 (v := nI 2) (by decide) ?_
    refine ew_icmp_ne (M := mX10_turnedFrom) (tgt := 61) dX10_turnedFrom_49 rfl (fun _ => ?_) (fun h => absurd h (by decide))
    refine ew_aload_n (M := mX10_turnedFrom) dX10_turnedFrom_61 rfl (Or.inr (Or.inl ⟨_, rfl⟩)) ?_
    refine ew_iload_n (M := mX10_turnedFrom) dX10_turnedFrom_62 rfl ?_
    refine ew_iload_n (M := mX10_turnedFrom) dX10_turnedFrom_63 rfl ?_
    refine ew_callV (M := mX10_turnedFrom) dX10_turnedFrom_64 vX10_54 (by repeat (first | with_reducible assumption | refine ex_eq ?_ | refine ex_ne ?_ (by omega) | exact ex_lt (by with_reducible assumption) | rw [List.length_set] | assumption)) rfl (ms_place) rfl (Nat.le_of_ble_eq_true rfl) ⟨Nat.le_refl _, Nat.le_refl _⟩ rfl (fun H64 r64 q64 => ?_)
    obtain ⟨rfl, rfl⟩ := q64
    refine ew_iadd (M := mX10_turnedFrom) dX10_turnedFrom_67 ?_
    rw [nI_add]
    refine ew_istore (M := mX10_turnedFrom) dX10_turnedFrom_68 (by decide) rfl ?_
    refine ew_aload_n (M := mX10_turnedFrom) dX10_turnedFrom_70 rfl (Or.inr (Or.inl ⟨_, rfl⟩)) ?_
    refine ew_get (M := mX10_turnedFrom) dX10_turnedFrom_71 fX10_7 (by repeat (first | with_reducible assumption | refine ex_eq ?_ | refine ex_ne ?_ (by omega) | exact ex_lt (by with_reducible assumption) | rw [List.length_set] | assumption)) (by rfl) ?_
    refine ew_iload (M := mX10_turnedFrom) dX10_turnedFrom_74 rfl ?_
    refine ew_iald (M := mX10_turnedFrom) (82 + (2 + 10 * j + i)) dX10_turnedFrom_76 (by repeat (first | with_reducible assumption | refine ex_eq ?_ | refine ex_ne ?_ (by omega) | exact ex_lt (by with_reducible assumption) | rw [List.length_set] | assumption)) ⟨rfl, by omega, by decide⟩ ?_
    rw [dd']
    refine ew_sipush (M := mX10_turnedFrom) dX10_turnedFrom_77 (v := nI 256) (by decide) ?_
    refine ew_irem (M := mX10_turnedFrom) dX10_turnedFrom_80 (by decide) ?_
    rw [hr]
    refine ew_istore (M := mX10_turnedFrom) dX10_turnedFrom_81 (by decide) rfl ?_
    refine ew_iload_n (M := mX10_turnedFrom) dX10_turnedFrom_83 rfl ?_
    refine ew_iconst (M := mX10_turnedFrom) dX10_turnedFrom_84 (v := nI 3) (by decide) ?_
    refine ew_icmp_ne (M := mX10_turnedFrom) (tgt := 108) dX10_turnedFrom_85 rfl (fun h => absurd rfl h) (fun _ => ?_)
    refine ew_aload_n (M := mX10_turnedFrom) dX10_turnedFrom_88 rfl (Or.inr (Or.inl ⟨_, rfl⟩)) ?_
    refine ew_get (M := mX10_turnedFrom) dX10_turnedFrom_89 fX10_7 (by repeat (first | with_reducible assumption | refine ex_eq ?_ | refine ex_ne ?_ (by omega) | exact ex_lt (by with_reducible assumption) | rw [List.length_set] | assumption)) (by rfl) ?_
    refine ew_iload (M := mX10_turnedFrom) dX10_turnedFrom_92 rfl ?_
    refine ew_iald (M := mX10_turnedFrom) (82 + (2 + 10 * j + i)) dX10_turnedFrom_94 (by repeat (first | with_reducible assumption | refine ex_eq ?_ | refine ex_ne ?_ (by omega) | exact ex_lt (by with_reducible assumption) | rw [List.length_set] | assumption)) ⟨rfl, by omega, by decide⟩ ?_
    rw [dd']
    refine ew_iload (M := mX10_turnedFrom) dX10_turnedFrom_95 rfl ?_
    refine ew_isub (M := mX10_turnedFrom) dX10_turnedFrom_97 ?_
    rw [nI_sb (by omega)]
    refine ew_sipush (M := mX10_turnedFrom) dX10_turnedFrom_98 (v := nI 255) (by decide) ?_
    refine ew_iadd (M := mX10_turnedFrom) dX10_turnedFrom_101 ?_
    rw [nI_add]
    refine ew_iload (M := mX10_turnedFrom) dX10_turnedFrom_102 rfl ?_
    refine ew_isub (M := mX10_turnedFrom) dX10_turnedFrom_104 ?_
    rw [nI_sb (by omega)]
    refine ew_goto (M := mX10_turnedFrom) (tgt := 115) dX10_turnedFrom_105 rfl ?_
    refine ew_iret (M := mX10_turnedFrom) dX10_turnedFrom_115 rfl (by first | rfl | decide) (Nat.le_refl _) (Nat.le_refl _) ?_
    exact ⟨rfl, by congr 3; omega⟩
/-- so far turned: the rows before j, and in row j the dots before i -/
def tuI (P : PT) (how : Nat) (V W : Nat → Int32) (i j : Nat) : Prop := W 0 = nI (tuP P how).1 ∧ W 1 = nI (tuP P how).2.1 ∧ (∀ q, 82 ≤ q → W q = V q) ∧ ∀ a b, a < (tuP P how).1 → b < j ∨ (b = j ∧ a < i) → W (2 + 10 * b + a) = nI ((tuP P how).2.2.1 (b * (tuP P how).1 + a) + 256 * (tuP P how).2.2.2 (b * (tuP P how).1 + a))
theorem ms_turn0 {d : Nat} {H0 H : ex_H} {S : SS} {R : Int32 × Int32 × Int32 × Int32} {mn : Int32} {C N V W0 : Nat → Int32} {how : Nat} (hS1 : mo_at H0 (s_rem S) R mn C N) (hV : H0[87]? = some (ar .int 1558 V)) (hc : ex_ch H0 H [87]) (h87 : H[87]? = some (ar .int 1558 W0)) (hI : tuI S.2.2.1.1 how V W0 0 0) (hh : how < 4) (h8 : how = 2 → S.2.2.1.1.1 ≤ 8) : ex_W mX10_turn (d + 2) 0 0 (fun H' r => r = some (.int (nI (tuP S.2.2.1.1 how).1)) ∧ ex_ch H0 H' [87] ∧ mo_at H' (deed S (tuP S.2.2.1.1 how)) R mn C N) H 80 [(0, .ref 86), (1, .int (nI how))] [] 0 0 := by
  obtain ⟨k1, ⟨vfi, vsd, vkp⟩, ⟨W1, k2, vw0, ⟨vcn, vwh⟩, vwi⟩, ⟨T1, k3, vtn, vtx⟩, ⟨F1, k4, vfl⟩, ⟨IF1, IL1, IS1, k5, k6, k7, vim⟩, ⟨BX1, BY1, BG1, k8, k9, k10, vbn, vbk⟩, k11, k12⟩ := id hS1
  rw [hV] at k2
  injection k2 with k2
  injection k2 with k2
  injection k2 with k2 k2'
  injection k2' with k2' k2''
  subst k2''
  have hold : mw V 82 S.2.2.1.1 := by
    have h0 := vwh 0 (by show 0 < hcnt _; unfold hcnt; split <;> omega)
    have e : hpush S.2.2.2.2.2.1.1 S.2.2.2.2.2.1.2 S.2.2.1.1 (hcnt S.2.2.2.2.2.1.1 - 1 - 0) = S.2.2.1.1 := by
      unfold hpush hcnt
      by_cases hc : S.2.2.2.2.2.1.1 < 16
      · rw [if_pos hc, if_pos hc, if_pos (by omega)]
      · rw [if_neg hc, if_neg hc, if_pos rfl]
    have h1 : mw V 82 (hpush S.2.2.2.2.2.1.1 S.2.2.2.2.2.1.2 S.2.2.1.1 (hcnt S.2.2.2.2.2.1.1 - 1 - 0)) := h0
    rw [e] at h1
    exact h1
  have hok := tuP_ok hh hold.1 h8
  obtain ⟨⟨y1, y2, y3, y4⟩, ygm⟩ := id hok
  refine ew_iconst (M := mX10_turn) dX10_turn_80 (v := nI 0) (by decide) ?_
  refine ew_istore_n (M := mX10_turn) dX10_turn_81 (by decide) rfl ?_
  refine ew_ls [(0, .ref 86), (1, .int (nI how)), (2, .int (nI 0))] ⟨rfl, rfl, rfl, trivial⟩ ?_
  refine nat_down (P := fun j => ∀ (H2 : ex_H) (W2 : Nat → Int32), ex_ch H0 H2 [87] → H2[87]? = some (ar .int 1558 W2) → tuI S.2.2.1.1 how V W2 0 j → ex_W mX10_turn (d + 2) 0 0 _ H2 82 [(0, .ref 86), (1, .int (nI how)), (2, .int (nI j))] [] 0 0) (tuP S.2.2.1.1 how).2.1 (fun j hj ko => ?_) ?_ H W0 hc h87 hI
  · intro H2 W2 hc2 b2 hI2
    have b1 := hc2.at k1 (by simp)
    obtain ⟨i0, i1, i2, i3⟩ := id hI2
    refine ew_iload_n (M := mX10_turn) dX10_turn_82 rfl ?_
    refine ew_aload_n (M := mX10_turn) dX10_turn_83 rfl (Or.inr (Or.inl ⟨_, rfl⟩)) ?_
    refine ew_get (M := mX10_turn) dX10_turn_84 fX10_7 (by repeat (first | with_reducible assumption | refine ex_eq ?_ | refine ex_ne ?_ (by omega) | exact ex_lt (by with_reducible assumption) | rw [List.length_set] | assumption)) (by rfl) ?_
    refine ew_iconst (M := mX10_turn) dX10_turn_87 (v := nI 1) (by decide) ?_
    refine ew_iald (M := mX10_turn) 1 dX10_turn_88 (by repeat (first | with_reducible assumption | refine ex_eq ?_ | refine ex_ne ?_ (by omega) | exact ex_lt (by with_reducible assumption) | rw [List.length_set] | assumption)) ⟨rfl, by decide, by decide⟩ ?_
    rw [i1]
    refine ew_icmp_ge (M := mX10_turn) (tgt := 134) dX10_turn_89 rfl (fun h => absurd h (nI_ge hj (by omega))) (fun _ => ?_)
    refine ew_iconst (M := mX10_turn) dX10_turn_92 (v := nI 0) (by decide) ?_
    refine ew_istore_n (M := mX10_turn) dX10_turn_93 (by decide) rfl ?_
    refine ew_ls [(0, .ref 86), (1, .int (nI how)), (2, .int (nI j)), (3, .int (nI 0))] ⟨rfl, rfl, rfl, rfl, trivial⟩ ?_
    refine nat_down (P := fun i => ∀ (H2 : ex_H) (W2 : Nat → Int32), ex_ch H0 H2 [87] → H2[87]? = some (ar .int 1558 W2) → tuI S.2.2.1.1 how V W2 i j → ex_W mX10_turn (d + 2) 0 0 _ H2 94 [(0, .ref 86), (1, .int (nI how)), (2, .int (nI j)), (3, .int (nI i))] [] 0 0) (tuP S.2.2.1.1 how).1 (fun i hi ki => ?_) ?_ H2 W2 hc2 b2 hI2
    · intro H3 W3 hc3 d2 hI3
      have d1 := hc3.at k1 (by simp)
      obtain ⟨l0, l1, l2, l3⟩ := id hI3
      have h82 := pl_80 y2 y4 hi hj
      refine ew_iload_n (M := mX10_turn) dX10_turn_94 rfl ?_
      refine ew_aload_n (M := mX10_turn) dX10_turn_95 rfl (Or.inr (Or.inl ⟨_, rfl⟩)) ?_
      refine ew_get (M := mX10_turn) dX10_turn_96 fX10_7 (by repeat (first | with_reducible assumption | refine ex_eq ?_ | refine ex_ne ?_ (by omega) | exact ex_lt (by with_reducible assumption) | rw [List.length_set] | assumption)) (by rfl) ?_
      refine ew_iconst (M := mX10_turn) dX10_turn_99 (v := nI 0) (by decide) ?_
      refine ew_iald (M := mX10_turn) 0 dX10_turn_100 (by repeat (first | with_reducible assumption | refine ex_eq ?_ | refine ex_ne ?_ (by omega) | exact ex_lt (by with_reducible assumption) | rw [List.length_set] | assumption)) ⟨rfl, by decide, by decide⟩ ?_
      rw [l0]
      refine ew_icmp_ge (M := mX10_turn) (tgt := 128) dX10_turn_101 rfl (fun h => absurd h (nI_ge hi (by omega))) (fun _ => ?_)
      refine ew_aload_n (M := mX10_turn) dX10_turn_104 rfl (Or.inr (Or.inl ⟨_, rfl⟩)) ?_
      refine ew_get (M := mX10_turn) dX10_turn_105 fX10_7 (by repeat (first | with_reducible assumption | refine ex_eq ?_ | refine ex_ne ?_ (by omega) | exact ex_lt (by with_reducible assumption) | rw [List.length_set] | assumption)) (by rfl) ?_
      refine ew_aload_n (M := mX10_turn) dX10_turn_108 rfl (Or.inr (Or.inl ⟨_, rfl⟩)) ?_
      refine ew_iload_n (M := mX10_turn) dX10_turn_109 rfl ?_
      refine ew_iload_n (M := mX10_turn) dX10_turn_110 rfl ?_
      refine ew_callV (M := mX10_turn) dX10_turn_111 vX10_54 (by repeat (first | with_reducible assumption | refine ex_eq ?_ | refine ex_ne ?_ (by omega) | exact ex_lt (by with_reducible assumption) | rw [List.length_set] | assumption)) rfl (ms_place) rfl (Nat.le_of_ble_eq_true rfl) ⟨Nat.le_refl _, Nat.le_refl _⟩ rfl (fun H111 r111 q111 => ?_)
      obtain ⟨rfl, rfl⟩ := q111
      refine ew_aload_n (M := mX10_turn) dX10_turn_114 rfl (Or.inr (Or.inl ⟨_, rfl⟩)) ?_
      refine ew_iload_n (M := mX10_turn) dX10_turn_115 rfl ?_
      refine ew_iload_n (M := mX10_turn) dX10_turn_116 rfl ?_
      refine ew_iload_n (M := mX10_turn) dX10_turn_117 rfl ?_
      refine ew_callV (M := mX10_turn) dX10_turn_118 vX10_196 (by repeat (first | with_reducible assumption | refine ex_eq ?_ | refine ex_ne ?_ (by omega) | exact ex_lt (by with_reducible assumption) | rw [List.length_set] | assumption)) rfl (ms_turnedFrom d1 d2 l0 l1 (hold.cg (fun q hq => l2 _ (by omega))) hh hi hj) rfl (Nat.le_of_ble_eq_true rfl) ⟨Nat.le_refl _, Nat.le_refl _⟩ rfl (fun H118 r118 q118 => ?_)
      obtain ⟨rfl, rfl⟩ := q118
      refine ew_iast (M := mX10_turn) (2 + 10 * j + i) dX10_turn_121 (by repeat (first | with_reducible assumption | refine ex_eq ?_ | refine ex_ne ?_ (by omega) | exact ex_lt (by with_reducible assumption) | rw [List.length_set] | assumption)) ⟨rfl, by omega, by decide⟩ ?_
      refine ew_iinc (M := mX10_turn) dX10_turn_122 rfl (ex_inc i) (by decide) rfl ?_
      refine ew_goto (M := mX10_turn) (tgt := 94) dX10_turn_125 rfl ?_
      refine ew_ls _ ?_ (ki _ _ (hc3.set (by simp)) (ex_eq (ex_lt d2)) ⟨?_, ?_, ?_, ?_⟩)
      · exact ⟨rfl, rfl, rfl, rfl, trivial⟩
      · show (if 0 = 2 + 10 * j + i then _ else W3 0) = _
        rw [if_neg (by omega)]
        exact l0
      · show (if 1 = 2 + 10 * j + i then _ else W3 1) = _
        rw [if_neg (by omega)]
        exact l1
      · intro q hq
        show (if q = 2 + 10 * j + i then _ else W3 q) = _
        rw [if_neg (by omega)]
        exact l2 q hq
      · intro a b ha hb
        show (if 2 + 10 * b + a = 2 + 10 * j + i then _ else W3 (2 + 10 * b + a)) = _
        by_cases e : a = i ∧ b = j
        · obtain ⟨rfl, rfl⟩ := e
          rw [if_pos rfl]
        · rw [if_neg (by omega)]
          exact l3 a b ha (by omega)
    · intro H3 W3 hc3 d2 hI3
      have d1 := hc3.at k1 (by simp)
      obtain ⟨l0, l1, l2, l3⟩ := id hI3
      refine ew_iload_n (M := mX10_turn) dX10_turn_94 rfl ?_
      refine ew_aload_n (M := mX10_turn) dX10_turn_95 rfl (Or.inr (Or.inl ⟨_, rfl⟩)) ?_
      refine ew_get (M := mX10_turn) dX10_turn_96 fX10_7 (by repeat (first | with_reducible assumption | refine ex_eq ?_ | refine ex_ne ?_ (by omega) | exact ex_lt (by with_reducible assumption) | rw [List.length_set] | assumption)) (by rfl) ?_
      refine ew_iconst (M := mX10_turn) dX10_turn_99 (v := nI 0) (by decide) ?_
      refine ew_iald (M := mX10_turn) 0 dX10_turn_100 (by repeat (first | with_reducible assumption | refine ex_eq ?_ | refine ex_ne ?_ (by omega) | exact ex_lt (by with_reducible assumption) | rw [List.length_set] | assumption)) ⟨rfl, by decide, by decide⟩ ?_
      rw [l0]
      refine ew_icmp_ge (M := mX10_turn) (tgt := 128) dX10_turn_101 rfl (fun _ => ?_) (fun h => absurd (nI_le (Nat.le_refl _) (by omega)) h)
      refine ew_iinc (M := mX10_turn) dX10_turn_128 rfl (ex_inc j) (by decide) rfl ?_
      refine ew_goto (M := mX10_turn) (tgt := 82) dX10_turn_131 rfl ?_
      refine ew_ls _ ?_ (ko _ _ hc3 d2 ⟨l0, l1, l2, fun a b ha hb => l3 a b ha (by omega)⟩)
      exact ⟨rfl, rfl, rfl, trivial⟩
  · intro H2 W2 hc2 b2 hI2
    have b1 := hc2.at k1 (by simp)
    obtain ⟨i0, i1, i2, i3⟩ := id hI2
    refine ew_iload_n (M := mX10_turn) dX10_turn_82 rfl ?_
    refine ew_aload_n (M := mX10_turn) dX10_turn_83 rfl (Or.inr (Or.inl ⟨_, rfl⟩)) ?_
    refine ew_get (M := mX10_turn) dX10_turn_84 fX10_7 (by repeat (first | with_reducible assumption | refine ex_eq ?_ | refine ex_ne ?_ (by omega) | exact ex_lt (by with_reducible assumption) | rw [List.length_set] | assumption)) (by rfl) ?_
    refine ew_iconst (M := mX10_turn) dX10_turn_87 (v := nI 1) (by decide) ?_
    refine ew_iald (M := mX10_turn) 1 dX10_turn_88 (by repeat (first | with_reducible assumption | refine ex_eq ?_ | refine ex_ne ?_ (by omega) | exact ex_lt (by with_reducible assumption) | rw [List.length_set] | assumption)) ⟨rfl, by decide, by decide⟩ ?_
    rw [i1]
    refine ew_icmp_ge (M := mX10_turn) (tgt := 134) dX10_turn_89 rfl (fun _ => ?_) (fun h => absurd (nI_le (Nat.le_refl _) (by omega)) h)
    refine ew_aload_n (M := mX10_turn) dX10_turn_134 rfl (Or.inr (Or.inl ⟨_, rfl⟩)) ?_
    refine ew_get (M := mX10_turn) dX10_turn_135 fX10_7 (by repeat (first | with_reducible assumption | refine ex_eq ?_ | refine ex_ne ?_ (by omega) | exact ex_lt (by with_reducible assumption) | rw [List.length_set] | assumption)) (by rfl) ?_
    refine ew_iconst (M := mX10_turn) dX10_turn_138 (v := nI 0) (by decide) ?_
    refine ew_iald (M := mX10_turn) 0 dX10_turn_139 (by repeat (first | with_reducible assumption | refine ex_eq ?_ | refine ex_ne ?_ (by omega) | exact ex_lt (by with_reducible assumption) | rw [List.length_set] | assumption)) ⟨rfl, by decide, by decide⟩ ?_
    rw [i0]
    refine ew_iret (M := mX10_turn) dX10_turn_140 rfl (by first | rfl | decide) (Nat.le_refl _) (Nat.le_refl _) ?_
    exact ⟨rfl, hc2, ⟨hc2.at k1 (by simp), ⟨vfi, vsd, vkp⟩, ⟨W2, b2, mww.cur (P' := (tuP S.2.2.1.1 how)) ⟨vw0, ⟨vcn, vwh⟩, vwi⟩ (fun q h1 h2 => i2 q h1) ⟨hok, i0, i1, fun a b ha hb => by rw [Nat.zero_add]; exact i3 a b ha (Or.inl hb)⟩⟩, ⟨T1, hc2.at k3 (by simp), vtn, vtx⟩, ⟨F1, hc2.at k4 (by simp), vfl⟩, ⟨IF1, IL1, IS1, hc2.at k5 (by simp), hc2.at k6 (by simp), hc2.at k7 (by simp), vim⟩, ⟨BX1, BY1, BG1, hc2.at k8 (by simp), hc2.at k9 (by simp), hc2.at k10 (by simp), vbn, vbk⟩, hc2.at k11 (by simp), hc2.at k12 (by simp)⟩⟩
theorem ms_turn {d : Nat} {H : ex_H} {S : SS} (hS : mo_is H S) (t : Int32) : ex_Met mX10_turn (d + 2) 0 0 H [.ref 86, .int t] (fun H' r => r = some (.int (f_turn S t).1) ∧ ex_ch H H' mL ∧ mo_is H' (f_turn S t).2) := by
  obtain ⟨R, mn, C, N, hS⟩ := hS
  obtain ⟨a1, ⟨hfi, hsd, hkp⟩, ⟨W, a2, hw0, ⟨hcn, hwh⟩, hwi⟩, ⟨T, a3, htn, htx⟩, ⟨F, a4, hfl⟩, ⟨IF, IL, IS, a5, a6, a7, him⟩, ⟨BX, BY, BG, a8, a9, a10, hbn, hbk⟩, a11, a12⟩ := id hS
  obtain ⟨⟨⟨hz1, hz2, hz3, hz4⟩, hgm⟩, hW0, hW1, hWd⟩ := id hw0
  have hW1 : W 1 = nI S.2.2.1.1.2.1 := hW1
  by_cases hx : nI 0 ≤ t ∧ t ≤ nI 3
  · obtain ⟨how, hh, rfl⟩ := nI_of3 (by decide) hx
    by_cases h2 : how = 2
    · subst h2
      by_cases h8 : 8 < S.2.2.1.1.1
      · have ef : f_turn S (nI 2) = (-1000000003, S) := by
          unfold f_turn
          rw [cif_y hx, cif_y ⟨rfl, h8⟩]
        refine ex_meth [(0, .ref 86), (1, .int (nI 2))] rfl rfl rfl (fun b => Nat.le_of_ble_eq_true rfl) ?_
        refine ew_iload_n (M := mX10_turn) dX10_turn_0 rfl ?_
        refine ew_i2l (M := mX10_turn) dX10_turn_1 ?_
        refine ew_lconst (M := mX10_turn) dX10_turn_2 (v := 0) (by decide) ?_
        refine ew_ldc2 (M := mX10_turn) dX10_turn_3 kX10_193 ?_
        refine ew_callS (M := mX10_turn) dX10_turn_6 vX10_58 (ms_in_y (l := nI 0) (g := nI 3) (by decide) (by decide) hx.1 hx.2) rfl (Nat.le_of_ble_eq_true rfl) ⟨Nat.le_refl _, Nat.le_refl _⟩ rfl (fun H6 r6 q6 => ?_)
        obtain ⟨rfl, rfl⟩ := q6
        refine ew_if_ne (M := mX10_turn) (tgt := 15) dX10_turn_9 rfl (fun _ => ?_) (fun h => absurd h (by decide))
        refine ew_iload_n (M := mX10_turn) dX10_turn_15 rfl ?_
        refine ew_iconst (M := mX10_turn) dX10_turn_16 (v := nI 2) (by decide) ?_
        refine ew_icmp_ne (M := mX10_turn) (tgt := 45) dX10_turn_17 rfl (fun h => absurd rfl h) (fun _ => ?_)
        refine ew_aload_n (M := mX10_turn) dX10_turn_20 rfl (Or.inr (Or.inl ⟨_, rfl⟩)) ?_
        refine ew_get (M := mX10_turn) dX10_turn_21 fX10_7 (by repeat (first | with_reducible assumption | refine ex_eq ?_ | refine ex_ne ?_ (by omega) | exact ex_lt (by with_reducible assumption) | rw [List.length_set] | assumption)) (by rfl) ?_
        refine ew_iconst (M := mX10_turn) dX10_turn_24 (v := nI 0) (by decide) ?_
        refine ew_iald (M := mX10_turn) 0 dX10_turn_25 (by repeat (first | with_reducible assumption | refine ex_eq ?_ | refine ex_ne ?_ (by omega) | exact ex_lt (by with_reducible assumption) | rw [List.length_set] | assumption)) ⟨rfl, by decide, by decide⟩ ?_
        rw [hW0]
        refine ew_bipush (M := mX10_turn) dX10_turn_26 (v := nI 8) (by decide) ?_
        refine ew_icmp_gt (M := mX10_turn) (tgt := 42) dX10_turn_28 rfl (fun _ => ?_) (fun h => absurd (nI_lt h8 (by omega)) h)
        refine ew_ldc (M := mX10_turn) dX10_turn_42 kX10_195 ?_
        refine ew_iret (M := mX10_turn) dX10_turn_44 rfl (by first | rfl | decide) (Nat.le_refl _) (Nat.le_refl _) ?_
        exact ⟨by rw [ef], ex_ch.rf, by rw [ef]; exact ⟨_, _, _, _, hS⟩⟩
      · have ef : f_turn S (nI 2) = (nI (tuP S.2.2.1.1 2).1, deed S (tuP S.2.2.1.1 2)) := by
          unfold f_turn
          rw [cif_y hx, cif_n (fun q => h8 q.2)]
          rfl
        refine ex_meth [(0, .ref 86), (1, .int (nI 2))] rfl rfl rfl (fun b => Nat.le_of_ble_eq_true rfl) ?_
        refine ew_iload_n (M := mX10_turn) dX10_turn_0 rfl ?_
        refine ew_i2l (M := mX10_turn) dX10_turn_1 ?_
        refine ew_lconst (M := mX10_turn) dX10_turn_2 (v := 0) (by decide) ?_
        refine ew_ldc2 (M := mX10_turn) dX10_turn_3 kX10_193 ?_
        refine ew_callS (M := mX10_turn) dX10_turn_6 vX10_58 (ms_in_y (l := nI 0) (g := nI 3) (by decide) (by decide) hx.1 hx.2) rfl (Nat.le_of_ble_eq_true rfl) ⟨Nat.le_refl _, Nat.le_refl _⟩ rfl (fun H6 r6 q6 => ?_)
        obtain ⟨rfl, rfl⟩ := q6
        refine ew_if_ne (M := mX10_turn) (tgt := 15) dX10_turn_9 rfl (fun _ => ?_) (fun h => absurd h (by decide))
        refine ew_iload_n (M := mX10_turn) dX10_turn_15 rfl ?_
        refine ew_iconst (M := mX10_turn) dX10_turn_16 (v := nI 2) (by decide) ?_
        refine ew_icmp_ne (M := mX10_turn) (tgt := 45) dX10_turn_17 rfl (fun h => absurd rfl h) (fun _ => ?_)
        refine ew_aload_n (M := mX10_turn) dX10_turn_20 rfl (Or.inr (Or.inl ⟨_, rfl⟩)) ?_
        refine ew_get (M := mX10_turn) dX10_turn_21 fX10_7 (by repeat (first | with_reducible assumption | refine ex_eq ?_ | refine ex_ne ?_ (by omega) | exact ex_lt (by with_reducible assumption) | rw [List.length_set] | assumption)) (by rfl) ?_
        refine ew_iconst (M := mX10_turn) dX10_turn_24 (v := nI 0) (by decide) ?_
        refine ew_iald (M := mX10_turn) 0 dX10_turn_25 (by repeat (first | with_reducible assumption | refine ex_eq ?_ | refine ex_ne ?_ (by omega) | exact ex_lt (by with_reducible assumption) | rw [List.length_set] | assumption)) ⟨rfl, by decide, by decide⟩ ?_
        rw [hW0]
        refine ew_bipush (M := mX10_turn) dX10_turn_26 (v := nI 8) (by decide) ?_
        refine ew_icmp_gt (M := mX10_turn) (tgt := 42) dX10_turn_28 rfl (fun h => absurd h (nI_nlt (by omega) (by omega))) (fun _ => ?_)
        refine ew_aload_n (M := mX10_turn) dX10_turn_31 rfl (Or.inr (Or.inl ⟨_, rfl⟩)) ?_
        refine ew_get (M := mX10_turn) dX10_turn_32 fX10_7 (by repeat (first | with_reducible assumption | refine ex_eq ?_ | refine ex_ne ?_ (by omega) | exact ex_lt (by with_reducible assumption) | rw [List.length_set] | assumption)) (by rfl) ?_
        refine ew_iconst (M := mX10_turn) dX10_turn_35 (v := nI 1) (by decide) ?_
        refine ew_iald (M := mX10_turn) 1 dX10_turn_36 (by repeat (first | with_reducible assumption | refine ex_eq ?_ | refine ex_ne ?_ (by omega) | exact ex_lt (by with_reducible assumption) | rw [List.length_set] | assumption)) ⟨rfl, by decide, by decide⟩ ?_
        rw [hW1]
        refine ew_bipush (M := mX10_turn) dX10_turn_37 (v := nI 10) (by decide) ?_
        refine ew_icmp_le (M := mX10_turn) (tgt := 45) dX10_turn_39 rfl (fun _ => ?_) (fun h => absurd (nI_le (by omega) (by decide)) h)
        refine ew_aload_n (M := mX10_turn) dX10_turn_45 rfl (Or.inr (Or.inl ⟨_, rfl⟩)) ?_
        refine ew_callV (M := mX10_turn) dX10_turn_46 vX10_115 (by repeat (first | with_reducible assumption | refine ex_eq ?_ | refine ex_ne ?_ (by omega) | exact ex_lt (by with_reducible assumption) | rw [List.length_set] | assumption)) rfl (ms_remember hS) rfl (Nat.le_of_ble_eq_true rfl) ⟨Nat.le_refl _, Nat.le_refl _⟩ rfl (fun H46 r46 q46 => ?_)
        obtain ⟨rfl, hc1, hS1⟩ := q46
        obtain ⟨k1, -, ⟨W1, k2, vw0, -⟩, -⟩ := id hS1
        obtain ⟨-, u0, u1, -⟩ := id vw0
        have u1 : W1 1 = nI S.2.2.1.1.2.1 := u1
        have u0 : W1 0 = nI S.2.2.1.1.1 := u0
        refine ew_iload_n (M := mX10_turn) dX10_turn_49 rfl ?_
        refine ew_iconst (M := mX10_turn) dX10_turn_50 (v := nI 2) (by decide) ?_
        refine ew_icmp_ne (M := mX10_turn) (tgt := 80) dX10_turn_51 rfl (fun h => absurd rfl h) (fun _ => ?_)
        refine ew_aload_n (M := mX10_turn) dX10_turn_54 rfl (Or.inr (Or.inl ⟨_, rfl⟩)) ?_
        refine ew_get (M := mX10_turn) dX10_turn_55 fX10_7 (by repeat (first | with_reducible assumption | refine ex_eq ?_ | refine ex_ne ?_ (by omega) | exact ex_lt (by with_reducible assumption) | rw [List.length_set] | assumption)) (by rfl) ?_
        refine ew_iconst (M := mX10_turn) dX10_turn_58 (v := nI 0) (by decide) ?_
        refine ew_iald (M := mX10_turn) 0 dX10_turn_59 (by repeat (first | with_reducible assumption | refine ex_eq ?_ | refine ex_ne ?_ (by omega) | exact ex_lt (by with_reducible assumption) | rw [List.length_set] | assumption)) ⟨rfl, by decide, by decide⟩ ?_
        rw [u0]
        refine ew_istore_n (M := mX10_turn) dX10_turn_60 (by decide) rfl ?_
        refine ew_aload_n (M := mX10_turn) dX10_turn_61 rfl (Or.inr (Or.inl ⟨_, rfl⟩)) ?_
        refine ew_get (M := mX10_turn) dX10_turn_62 fX10_7 (by repeat (first | with_reducible assumption | refine ex_eq ?_ | refine ex_ne ?_ (by omega) | exact ex_lt (by with_reducible assumption) | rw [List.length_set] | assumption)) (by rfl) ?_
        refine ew_iconst (M := mX10_turn) dX10_turn_65 (v := nI 0) (by decide) ?_
        refine ew_aload_n (M := mX10_turn) dX10_turn_66 rfl (Or.inr (Or.inl ⟨_, rfl⟩)) ?_
        refine ew_get (M := mX10_turn) dX10_turn_67 fX10_7 (by repeat (first | with_reducible assumption | refine ex_eq ?_ | refine ex_ne ?_ (by omega) | exact ex_lt (by with_reducible assumption) | rw [List.length_set] | assumption)) (by rfl) ?_
        refine ew_iconst (M := mX10_turn) dX10_turn_70 (v := nI 1) (by decide) ?_
        refine ew_iald (M := mX10_turn) 1 dX10_turn_71 (by repeat (first | with_reducible assumption | refine ex_eq ?_ | refine ex_ne ?_ (by omega) | exact ex_lt (by with_reducible assumption) | rw [List.length_set] | assumption)) ⟨rfl, by decide, by decide⟩ ?_
        rw [u1]
        refine ew_iast (M := mX10_turn) 0 dX10_turn_72 (by repeat (first | with_reducible assumption | refine ex_eq ?_ | refine ex_ne ?_ (by omega) | exact ex_lt (by with_reducible assumption) | rw [List.length_set] | assumption)) ⟨rfl, by decide, by decide⟩ ?_
        refine ew_aload_n (M := mX10_turn) dX10_turn_73 rfl (Or.inr (Or.inl ⟨_, rfl⟩)) ?_
        refine ew_get (M := mX10_turn) dX10_turn_74 fX10_7 (by repeat (first | with_reducible assumption | refine ex_eq ?_ | refine ex_ne ?_ (by omega) | exact ex_lt (by with_reducible assumption) | rw [List.length_set] | assumption)) (by rfl) ?_
        refine ew_iconst (M := mX10_turn) dX10_turn_77 (v := nI 1) (by decide) ?_
        refine ew_iload_n (M := mX10_turn) dX10_turn_78 rfl ?_
        refine ew_iast (M := mX10_turn) 1 dX10_turn_79 (by repeat (first | with_reducible assumption | refine ex_eq ?_ | refine ex_ne ?_ (by omega) | exact ex_lt (by with_reducible assumption) | rw [List.length_set] | assumption)) ⟨rfl, by decide, by decide⟩ ?_
        refine ew_ls [(0, .ref 86), (1, .int (nI 2))] ⟨rfl, rfl, trivial⟩ ?_
        refine ew_post (M := mX10_turn) (fun H' r q => ?_) (ms_turn0 hS1 k2 ((ex_ch.rf.set (by simp)).set (by simp)) (ex_eq (by rw [List.length_set]; exact ex_lt k2)) ⟨rfl, rfl, fun q hq => by show (if q = 1 then _ else if q = 0 then _ else W1 q) = _; rw [if_neg (by omega), if_neg (by omega)], fun a b ha hb => by omega⟩ (by omega) (fun _ => by omega))
        obtain ⟨q1, q2, q3⟩ := q
        rw [ef]
        exact ⟨q1, (hc1.tr q2 (by simp)).sub (mL_sub (by decide)), R, mn, C, N, q3⟩
    · have ef : f_turn S (nI how) = (nI (tuP S.2.2.1.1 how).1, deed S (tuP S.2.2.1.1 how)) := by
        unfold f_turn
        rw [cif_y hx, cif_n (fun q => h2 ((nI_eq (by omega) (by decide)).mp q.1)), nI_clamp (by omega)]
      have hn2 : ¬ nI how = nI 2 := fun e => h2 ((nI_eq (by omega) (by decide)).mp e)
      refine ex_meth [(0, .ref 86), (1, .int (nI how))] rfl rfl rfl (fun b => Nat.le_of_ble_eq_true rfl) ?_
      refine ew_iload_n (M := mX10_turn) dX10_turn_0 rfl ?_
      refine ew_i2l (M := mX10_turn) dX10_turn_1 ?_
      refine ew_lconst (M := mX10_turn) dX10_turn_2 (v := 0) (by decide) ?_
      refine ew_ldc2 (M := mX10_turn) dX10_turn_3 kX10_193 ?_
      refine ew_callS (M := mX10_turn) dX10_turn_6 vX10_58 (ms_in_y (l := nI 0) (g := nI 3) (by decide) (by decide) hx.1 hx.2) rfl (Nat.le_of_ble_eq_true rfl) ⟨Nat.le_refl _, Nat.le_refl _⟩ rfl (fun H6 r6 q6 => ?_)
      obtain ⟨rfl, rfl⟩ := q6
      refine ew_if_ne (M := mX10_turn) (tgt := 15) dX10_turn_9 rfl (fun _ => ?_) (fun h => absurd h (by decide))
      refine ew_iload_n (M := mX10_turn) dX10_turn_15 rfl ?_
      refine ew_iconst (M := mX10_turn) dX10_turn_16 (v := nI 2) (by decide) ?_
      refine ew_icmp_ne (M := mX10_turn) (tgt := 45) dX10_turn_17 rfl (fun _ => ?_) (fun h => absurd h hn2)
      refine ew_aload_n (M := mX10_turn) dX10_turn_45 rfl (Or.inr (Or.inl ⟨_, rfl⟩)) ?_
      refine ew_callV (M := mX10_turn) dX10_turn_46 vX10_115 (by repeat (first | with_reducible assumption | refine ex_eq ?_ | refine ex_ne ?_ (by omega) | exact ex_lt (by with_reducible assumption) | rw [List.length_set] | assumption)) rfl (ms_remember hS) rfl (Nat.le_of_ble_eq_true rfl) ⟨Nat.le_refl _, Nat.le_refl _⟩ rfl (fun H46 r46 q46 => ?_)
      obtain ⟨rfl, hc1, hS1⟩ := q46
      obtain ⟨k1, -, ⟨W1, k2, vw0, -⟩, -⟩ := id hS1
      obtain ⟨-, u0, u1, -⟩ := id vw0
      have u1 : W1 1 = nI S.2.2.1.1.2.1 := u1
      have u0 : W1 0 = nI S.2.2.1.1.1 := u0
      refine ew_iload_n (M := mX10_turn) dX10_turn_49 rfl ?_
      refine ew_iconst (M := mX10_turn) dX10_turn_50 (v := nI 2) (by decide) ?_
      refine ew_icmp_ne (M := mX10_turn) (tgt := 80) dX10_turn_51 rfl (fun _ => ?_) (fun h => absurd h hn2)
      refine ew_post (M := mX10_turn) (fun H' r q => ?_) (ms_turn0 hS1 k2 ex_ch.rf k2 ⟨by rw [u0]; show _ = nI (if how = 2 then _ else _); rw [if_neg h2], by rw [u1]; show _ = nI (if how = 2 then _ else _); rw [if_neg h2], fun q hq => rfl, fun a b ha hb => by omega⟩ (by omega) (fun e => absurd e h2))
      obtain ⟨q1, q2, q3⟩ := q
      rw [ef]
      exact ⟨q1, (hc1.tr q2 (by simp)).sub (mL_sub (by decide)), R, mn, C, N, q3⟩
  · have ef : f_turn S t = (-1000000002, S) := by
      unfold f_turn
      rw [cif_n hx]
    refine ex_meth [(0, .ref 86), (1, .int t)] rfl rfl rfl (fun b => Nat.le_of_ble_eq_true rfl) ?_
    refine ew_iload_n (M := mX10_turn) dX10_turn_0 rfl ?_
    refine ew_i2l (M := mX10_turn) dX10_turn_1 ?_
    refine ew_lconst (M := mX10_turn) dX10_turn_2 (v := 0) (by decide) ?_
    refine ew_ldc2 (M := mX10_turn) dX10_turn_3 kX10_193 ?_
    refine ew_callS (M := mX10_turn) dX10_turn_6 vX10_58 (ms_in_n (l := nI 0) (g := nI 3) (by decide) (by decide) hx) rfl (Nat.le_of_ble_eq_true rfl) ⟨Nat.le_refl _, Nat.le_refl _⟩ rfl (fun H6 r6 q6 => ?_)
    obtain ⟨rfl, rfl⟩ := q6
    refine ew_if_ne (M := mX10_turn) (tgt := 15) dX10_turn_9 rfl (fun h => absurd (by decide) h) (fun _ => ?_)
    refine ew_ldc (M := mX10_turn) dX10_turn_12 kX10_110 ?_
    refine ew_iret (M := mX10_turn) dX10_turn_14 rfl (by first | rfl | decide) (Nat.le_refl _) (Nat.le_refl _) ?_
    exact ⟨by rw [ef], ex_ch.rf, by rw [ef]; exact ⟨_, _, _, _, hS⟩⟩
