theorem mL_sub {H : ex_H} {L : List Nat} (h : (L.all (fun k => mL.contains k)) = true) : ∀ k ∈ L, k ∈ mL ∨ H.length ≤ k := fun k hk => Or.inl (by
  have h1 := List.all_eq_true.mp h k hk
  exact List.contains_iff_mem.mp h1)
theorem ms_tally {d : Nat} {H : ex_H} {S : SS} (hS : mo_is H S) (x y u v g : Int32) : ex_Met mX10_tally (d + 2) 0 0 H [.ref 86, .int x, .int y, .int u, .int v, .int g] (fun H' r => r = some (.int (f_tally S x y u v g).1) ∧ ex_ch H H' mL ∧ mo_is H' (f_tally S x y u v g).2) := by
  obtain ⟨R, mn, C, N, hS⟩ := hS
  obtain ⟨a1, ⟨hfi, hsd, hkp⟩, ⟨W, a2, hw0, ⟨hcn, hwh⟩, hwi⟩, ⟨T, a3, htn, htx⟩, ⟨F, a4, hfl⟩, ⟨IF, IL, IS, a5, a6, a7, him⟩, ⟨BX, BY, BG, a8, a9, a10, hbn, hbk⟩, a11, a12⟩ := id hS
  obtain ⟨⟨⟨hz1, hz2, hz3, hz4⟩, hgm⟩, hW0, hW1, hWd⟩ := id hw0
  refine ex_meth [(0, .ref 86), (1, .int x), (2, .int y), (3, .int u), (4, .int v), (5, .int g)] rfl rfl rfl (fun b => Nat.le_of_ble_eq_true rfl) ?_
  unfold f_tally
  by_cases hin : pi_in S.2.2.1.1.1 S.2.2.1.1.2.1 x y
  · obtain ⟨i0, j0, rfl, hi0, rfl, hj0⟩ := id hin
    by_cases hin2 : pi_in S.2.2.1.1.1 S.2.2.1.1.2.1 u v
    · rw [cif_y ⟨hin, hin2⟩]
      obtain ⟨i2, j2, rfl, hi2, rfl, hj2⟩ := id hin2
      by_cases hg : -1 ≤ g ∧ g ≤ nI 256
      · refine ew_aload_n (M := mX10_tally) dX10_tally_0 rfl (Or.inr (Or.inl ⟨_, rfl⟩)) ?_
        refine ew_iload_n (M := mX10_tally) dX10_tally_1 rfl ?_
        refine ew_iload_n (M := mX10_tally) dX10_tally_2 rfl ?_
        refine ew_callV (M := mX10_tally) dX10_tally_3 vX10_140 (by repeat (first | with_reducible assumption | refine ex_eq ?_ | refine ex_ne ?_ (by omega) | exact ex_lt (by with_reducible assumption) | rw [List.length_set] | assumption)) rfl (ms_isDot_y hS hi0 hj0) rfl (Nat.le_of_ble_eq_true rfl) ⟨Nat.le_refl _, Nat.le_refl _⟩ rfl (fun H3 r3 q3 => ?_)
        obtain ⟨rfl, rfl⟩ := q3
        refine ew_if_eq (M := mX10_tally) (tgt := 19) dX10_tally_6 rfl (fun h => absurd h (by decide)) (fun _ => ?_)
        refine ew_aload_n (M := mX10_tally) dX10_tally_9 rfl (Or.inr (Or.inl ⟨_, rfl⟩)) ?_
        refine ew_iload_n (M := mX10_tally) dX10_tally_10 rfl ?_
        refine ew_iload (M := mX10_tally) dX10_tally_11 rfl ?_
        refine ew_callV (M := mX10_tally) dX10_tally_13 vX10_140 (by repeat (first | with_reducible assumption | refine ex_eq ?_ | refine ex_ne ?_ (by omega) | exact ex_lt (by with_reducible assumption) | rw [List.length_set] | assumption)) rfl (ms_isDot_y hS hi2 hj2) rfl (Nat.le_of_ble_eq_true rfl) ⟨Nat.le_refl _, Nat.le_refl _⟩ rfl (fun H13 r13 q13 => ?_)
        obtain ⟨rfl, rfl⟩ := q13
        refine ew_if_ne (M := mX10_tally) (tgt := 22) dX10_tally_16 rfl (fun _ => ?_) (fun h => absurd h (by decide))
        refine ew_iload_n (M := mX10_tally) dX10_tally_22 rfl ?_
        refine ew_iload_n (M := mX10_tally) dX10_tally_23 rfl ?_
        refine ew_icmp_lt (M := mX10_tally) (tgt := 48) dX10_tally_24 rfl (fun c24 => ?_) (fun c24 => ?_)
        · rw [cif_y (Or.inl c24)]
          refine ew_ldc (M := mX10_tally) dX10_tally_48 kX10_110 ?_
          refine ew_iret (M := mX10_tally) dX10_tally_50 rfl (by first | rfl | decide) (Nat.le_refl _) (Nat.le_refl _) ?_
          exact ⟨rfl, ex_ch.rf, _, _, _, _, hS⟩
        · refine ew_iload (M := mX10_tally) dX10_tally_27 rfl ?_
          refine ew_iload_n (M := mX10_tally) dX10_tally_29 rfl ?_
          refine ew_icmp_lt (M := mX10_tally) (tgt := 48) dX10_tally_30 rfl (fun c30 => ?_) (fun c30 => ?_)
          · rw [cif_y (Or.inr (Or.inl c30))]
            refine ew_ldc (M := mX10_tally) dX10_tally_48 kX10_110 ?_
            refine ew_iret (M := mX10_tally) dX10_tally_50 rfl (by first | rfl | decide) (Nat.le_refl _) (Nat.le_refl _) ?_
            exact ⟨rfl, ex_ch.rf, _, _, _, _, hS⟩
          · rw [cif_n (fun q => q.elim c24 (fun q => q.elim c30 (fun q => q hg))), nI_clamp (show i0 < 2 ^ 31 by omega), nI_clamp (show j0 < 2 ^ 31 by omega), nI_clamp (show i2 < 2 ^ 31 by omega), nI_clamp (show j2 < 2 ^ 31 by omega)]
            rw [nI_ltI (by omega) (by omega)] at c24 c30
            refine ew_iload (M := mX10_tally) dX10_tally_33 rfl ?_
            refine ew_i2l (M := mX10_tally) dX10_tally_35 ?_
            refine ew_ldc2 (M := mX10_tally) dX10_tally_36 kX10_176 ?_
            refine ew_ldc2 (M := mX10_tally) dX10_tally_39 kX10_178 ?_
            refine ew_callS (M := mX10_tally) dX10_tally_42 vX10_58 (ms_in_y (l := -1) (g := nI 256) (by decide) (by decide) hg.1 hg.2) rfl (Nat.le_of_ble_eq_true rfl) ⟨Nat.le_refl _, Nat.le_refl _⟩ rfl (fun H42 r42 q42 => ?_)
            obtain ⟨rfl, rfl⟩ := q42
            refine ew_if_ne (M := mX10_tally) (tgt := 51) dX10_tally_45 rfl (fun _ => ?_) (fun h => absurd h (by decide))
            refine ew_iconst (M := mX10_tally) dX10_tally_51 (v := nI 0) (by decide) ?_
            refine ew_istore (M := mX10_tally) dX10_tally_52 (by decide) rfl ?_
            refine ew_iload_n (M := mX10_tally) dX10_tally_54 rfl ?_
            refine ew_istore (M := mX10_tally) dX10_tally_55 (by decide) rfl ?_
            refine ew_ls [(0, .ref 86), (1, .int (nI i0)), (2, .int (nI j0)), (3, .int (nI i2)), (4, .int (nI j2)), (5, .int g), (6, .int (nI 0)), (7, .int (nI (j0 + 0)))] ⟨rfl, rfl, rfl, rfl, rfl, rfl, rfl, rfl, trivial⟩ ?_
            refine fl_down (F := fun j n => fl (fun i n => if S.2.2.1.1.2.2.2 ((j0 + j) * S.2.2.1.1.1 + (i0 + i)) = 0 then (if g < nI (S.2.2.1.1.2.2.1 ((j0 + j) * S.2.2.1.1.1 + (i0 + i))) then n else n + 1) else n) (i2 - i0 + 1) n) (P := fun j n => ex_W mX10_tally (d + 2) 0 0 _ H 57 [(0, .ref 86), (1, .int (nI i0)), (2, .int (nI j0)), (3, .int (nI i2)), (4, .int (nI j2)), (5, .int g), (6, .int (nI n)), (7, .int (nI (j0 + j)))] [] 0 0) (j2 - j0 + 1) 0 (fun j n hj _ ko => ?_) ?_
            · refine ew_iload (M := mX10_tally) dX10_tally_57 rfl ?_
              refine ew_iload (M := mX10_tally) dX10_tally_59 rfl ?_
              refine ew_icmp_gt (M := mX10_tally) (tgt := 119) dX10_tally_61 rfl (fun h => absurd h (nI_nlt (by omega) (by omega))) (fun _ => ?_)
              refine ew_iload_n (M := mX10_tally) dX10_tally_64 rfl ?_
              refine ew_istore (M := mX10_tally) dX10_tally_65 (by decide) rfl ?_
              refine ew_ls [(0, .ref 86), (1, .int (nI i0)), (2, .int (nI j0)), (3, .int (nI i2)), (4, .int (nI j2)), (5, .int g), (6, .int (nI n)), (7, .int (nI (j0 + j))), (8, .int (nI (i0 + 0)))] ⟨rfl, rfl, rfl, rfl, rfl, rfl, rfl, rfl, rfl, trivial⟩ ?_
              refine fl_down (F := (fun i n => if S.2.2.1.1.2.2.2 ((j0 + j) * S.2.2.1.1.1 + (i0 + i)) = 0 then (if g < nI (S.2.2.1.1.2.2.1 ((j0 + j) * S.2.2.1.1.1 + (i0 + i))) then n else n + 1) else n)) (P := fun i n => ex_W mX10_tally (d + 2) 0 0 _ H 67 [(0, .ref 86), (1, .int (nI i0)), (2, .int (nI j0)), (3, .int (nI i2)), (4, .int (nI j2)), (5, .int g), (6, .int (nI n)), (7, .int (nI (j0 + j))), (8, .int (nI (i0 + i)))] [] 0 0) (i2 - i0 + 1) n (fun i n hi _ ki => ?_) ?_
              · refine ew_iload (M := mX10_tally) dX10_tally_67 rfl ?_
                refine ew_iload_n (M := mX10_tally) dX10_tally_69 rfl ?_
                refine ew_icmp_gt (M := mX10_tally) (tgt := 113) dX10_tally_70 rfl (fun h => absurd h (nI_nlt (by omega) (by omega))) (fun _ => ?_)
                refine ew_iload (M := mX10_tally) dX10_tally_73 rfl ?_
                refine ew_aload_n (M := mX10_tally) dX10_tally_75 rfl (Or.inr (Or.inl ⟨_, rfl⟩)) ?_
                refine ew_iload (M := mX10_tally) dX10_tally_76 rfl ?_
                refine ew_iload (M := mX10_tally) dX10_tally_78 rfl ?_
                refine ew_callV (M := mX10_tally) dX10_tally_80 vX10_62 (by repeat (first | with_reducible assumption | refine ex_eq ?_ | refine ex_ne ?_ (by omega) | exact ex_lt (by with_reducible assumption) | rw [List.length_set] | assumption)) rfl (ms_isMasked hS (by omega) (by omega)) rfl (Nat.le_of_ble_eq_true rfl) ⟨Nat.le_refl _, Nat.le_refl _⟩ rfl (fun H80 r80 q80 => ?_)
                obtain ⟨rfl, rfl⟩ := q80
                refine ew_if_ne (M := mX10_tally) (tgt := 103) dX10_tally_83 rfl (fun c83 => ?_) (fun c83 => ?_)
                · rw [nI_z (by have := (hgm ((j0 + j) * S.2.2.1.1.1 + (i0 + i)) (pi_lt (by omega) (by omega))).2; omega)] at c83
                  simp only [c83, ↓reduceIte] at ki
                  refine ew_iconst (M := mX10_tally) dX10_tally_103 (v := nI 0) (by decide) ?_
                  refine ew_iadd (M := mX10_tally) dX10_tally_104 ?_
                  rw [nI_add]
                  refine ew_istore (M := mX10_tally) dX10_tally_105 (by decide) rfl ?_
                  refine ew_iinc (M := mX10_tally) dX10_tally_107 rfl (ex_inc (i0 + i)) (by decide) rfl ?_
                  refine ew_goto (M := mX10_tally) (tgt := 67) dX10_tally_110 rfl ?_
                  refine ew_ls _ ?_ ki
                  exact ⟨rfl, rfl, rfl, rfl, rfl, rfl, rfl, rfl, rfl, trivial⟩
                · rw [nI_z (by have := (hgm ((j0 + j) * S.2.2.1.1.1 + (i0 + i)) (pi_lt (by omega) (by omega))).2; omega)] at c83
                  simp only [c83, ↓reduceIte] at ki
                  refine ew_aload_n (M := mX10_tally) dX10_tally_86 rfl (Or.inr (Or.inl ⟨_, rfl⟩)) ?_
                  refine ew_iload (M := mX10_tally) dX10_tally_87 rfl ?_
                  refine ew_iload (M := mX10_tally) dX10_tally_89 rfl ?_
                  refine ew_callV (M := mX10_tally) dX10_tally_91 vX10_137 (by repeat (first | with_reducible assumption | refine ex_eq ?_ | refine ex_ne ?_ (by omega) | exact ex_lt (by with_reducible assumption) | rw [List.length_set] | assumption)) rfl (ms_grey hS (by omega) (by omega)) rfl (Nat.le_of_ble_eq_true rfl) ⟨Nat.le_refl _, Nat.le_refl _⟩ rfl (fun H91 r91 q91 => ?_)
                  obtain ⟨rfl, rfl⟩ := q91
                  refine ew_iload (M := mX10_tally) dX10_tally_94 rfl ?_
                  refine ew_icmp_gt (M := mX10_tally) (tgt := 103) dX10_tally_96 rfl (fun c96 => ?_) (fun c96 => ?_)
                  · simp only [c96, ↓reduceIte] at ki
                    refine ew_iconst (M := mX10_tally) dX10_tally_103 (v := nI 0) (by decide) ?_
                    refine ew_iadd (M := mX10_tally) dX10_tally_104 ?_
                    rw [nI_add]
                    refine ew_istore (M := mX10_tally) dX10_tally_105 (by decide) rfl ?_
                    refine ew_iinc (M := mX10_tally) dX10_tally_107 rfl (ex_inc (i0 + i)) (by decide) rfl ?_
                    refine ew_goto (M := mX10_tally) (tgt := 67) dX10_tally_110 rfl ?_
                    refine ew_ls _ ?_ ki
                    exact ⟨rfl, rfl, rfl, rfl, rfl, rfl, rfl, rfl, rfl, trivial⟩
                  · simp only [c96, ↓reduceIte] at ki
                    refine ew_iconst (M := mX10_tally) dX10_tally_99 (v := nI 1) (by decide) ?_
                    refine ew_goto (M := mX10_tally) (tgt := 104) dX10_tally_100 rfl ?_
                    refine ew_iadd (M := mX10_tally) dX10_tally_104 ?_
                    rw [nI_add]
                    refine ew_istore (M := mX10_tally) dX10_tally_105 (by decide) rfl ?_
                    refine ew_iinc (M := mX10_tally) dX10_tally_107 rfl (ex_inc (i0 + i)) (by decide) rfl ?_
                    refine ew_goto (M := mX10_tally) (tgt := 67) dX10_tally_110 rfl ?_
                    refine ew_ls _ ?_ ki
                    exact ⟨rfl, rfl, rfl, rfl, rfl, rfl, rfl, rfl, rfl, trivial⟩
              · refine ew_iload (M := mX10_tally) dX10_tally_67 rfl ?_
                refine ew_iload_n (M := mX10_tally) dX10_tally_69 rfl ?_
                refine ew_icmp_gt (M := mX10_tally) (tgt := 113) dX10_tally_70 rfl (fun _ => ?_) (fun h => absurd (nI_lt (by omega) (by omega)) h)
                refine ew_iinc (M := mX10_tally) dX10_tally_113 rfl (ex_inc (j0 + j)) (by decide) rfl ?_
                refine ew_goto (M := mX10_tally) (tgt := 57) dX10_tally_116 rfl ?_
                refine ew_ls _ ?_ ko
                exact ⟨rfl, rfl, rfl, rfl, rfl, rfl, rfl, rfl, trivial⟩
            · refine ew_iload (M := mX10_tally) dX10_tally_57 rfl ?_
              refine ew_iload (M := mX10_tally) dX10_tally_59 rfl ?_
              refine ew_icmp_gt (M := mX10_tally) (tgt := 119) dX10_tally_61 rfl (fun _ => ?_) (fun h => absurd (nI_lt (by omega) (by omega)) h)
              refine ew_iload (M := mX10_tally) dX10_tally_119 rfl ?_
              refine ew_iret (M := mX10_tally) dX10_tally_121 rfl (by first | rfl | decide) (Nat.le_refl _) (Nat.le_refl _) ?_
              exact ⟨rfl, ex_ch.rf, _, _, _, _, hS⟩
      · rw [cif_y (Or.inr (Or.inr hg))]
        refine ew_aload_n (M := mX10_tally) dX10_tally_0 rfl (Or.inr (Or.inl ⟨_, rfl⟩)) ?_
        refine ew_iload_n (M := mX10_tally) dX10_tally_1 rfl ?_
        refine ew_iload_n (M := mX10_tally) dX10_tally_2 rfl ?_
        refine ew_callV (M := mX10_tally) dX10_tally_3 vX10_140 (by repeat (first | with_reducible assumption | refine ex_eq ?_ | refine ex_ne ?_ (by omega) | exact ex_lt (by with_reducible assumption) | rw [List.length_set] | assumption)) rfl (ms_isDot_y hS hi0 hj0) rfl (Nat.le_of_ble_eq_true rfl) ⟨Nat.le_refl _, Nat.le_refl _⟩ rfl (fun H3 r3 q3 => ?_)
        obtain ⟨rfl, rfl⟩ := q3
        refine ew_if_eq (M := mX10_tally) (tgt := 19) dX10_tally_6 rfl (fun h => absurd h (by decide)) (fun _ => ?_)
        refine ew_aload_n (M := mX10_tally) dX10_tally_9 rfl (Or.inr (Or.inl ⟨_, rfl⟩)) ?_
        refine ew_iload_n (M := mX10_tally) dX10_tally_10 rfl ?_
        refine ew_iload (M := mX10_tally) dX10_tally_11 rfl ?_
        refine ew_callV (M := mX10_tally) dX10_tally_13 vX10_140 (by repeat (first | with_reducible assumption | refine ex_eq ?_ | refine ex_ne ?_ (by omega) | exact ex_lt (by with_reducible assumption) | rw [List.length_set] | assumption)) rfl (ms_isDot_y hS hi2 hj2) rfl (Nat.le_of_ble_eq_true rfl) ⟨Nat.le_refl _, Nat.le_refl _⟩ rfl (fun H13 r13 q13 => ?_)
        obtain ⟨rfl, rfl⟩ := q13
        refine ew_if_ne (M := mX10_tally) (tgt := 22) dX10_tally_16 rfl (fun _ => ?_) (fun h => absurd h (by decide))
        refine ew_iload_n (M := mX10_tally) dX10_tally_22 rfl ?_
        refine ew_iload_n (M := mX10_tally) dX10_tally_23 rfl ?_
        refine ew_icmp_lt (M := mX10_tally) (tgt := 48) dX10_tally_24 rfl (fun c24 => ?_) (fun c24 => ?_)
        · refine ew_ldc (M := mX10_tally) dX10_tally_48 kX10_110 ?_
          refine ew_iret (M := mX10_tally) dX10_tally_50 rfl (by first | rfl | decide) (Nat.le_refl _) (Nat.le_refl _) ?_
          exact ⟨rfl, ex_ch.rf, _, _, _, _, hS⟩
        · refine ew_iload (M := mX10_tally) dX10_tally_27 rfl ?_
          refine ew_iload_n (M := mX10_tally) dX10_tally_29 rfl ?_
          refine ew_icmp_lt (M := mX10_tally) (tgt := 48) dX10_tally_30 rfl (fun c30 => ?_) (fun c30 => ?_)
          · refine ew_ldc (M := mX10_tally) dX10_tally_48 kX10_110 ?_
            refine ew_iret (M := mX10_tally) dX10_tally_50 rfl (by first | rfl | decide) (Nat.le_refl _) (Nat.le_refl _) ?_
            exact ⟨rfl, ex_ch.rf, _, _, _, _, hS⟩
          · refine ew_iload (M := mX10_tally) dX10_tally_33 rfl ?_
            refine ew_i2l (M := mX10_tally) dX10_tally_35 ?_
            refine ew_ldc2 (M := mX10_tally) dX10_tally_36 kX10_176 ?_
            refine ew_ldc2 (M := mX10_tally) dX10_tally_39 kX10_178 ?_
            refine ew_callS (M := mX10_tally) dX10_tally_42 vX10_58 (ms_in_n (l := -1) (g := nI 256) (by decide) (by decide) hg) rfl (Nat.le_of_ble_eq_true rfl) ⟨Nat.le_refl _, Nat.le_refl _⟩ rfl (fun H42 r42 q42 => ?_)
            obtain ⟨rfl, rfl⟩ := q42
            refine ew_if_ne (M := mX10_tally) (tgt := 51) dX10_tally_45 rfl (fun h => absurd rfl h) (fun _ => ?_)
            refine ew_ldc (M := mX10_tally) dX10_tally_48 kX10_110 ?_
            refine ew_iret (M := mX10_tally) dX10_tally_50 rfl (by first | rfl | decide) (Nat.le_refl _) (Nat.le_refl _) ?_
            exact ⟨rfl, ex_ch.rf, _, _, _, _, hS⟩
    · rw [cif_n (fun q => hin2 q.2)]
      refine ew_aload_n (M := mX10_tally) dX10_tally_0 rfl (Or.inr (Or.inl ⟨_, rfl⟩)) ?_
      refine ew_iload_n (M := mX10_tally) dX10_tally_1 rfl ?_
      refine ew_iload_n (M := mX10_tally) dX10_tally_2 rfl ?_
      refine ew_callV (M := mX10_tally) dX10_tally_3 vX10_140 (by repeat (first | with_reducible assumption | refine ex_eq ?_ | refine ex_ne ?_ (by omega) | exact ex_lt (by with_reducible assumption) | rw [List.length_set] | assumption)) rfl (ms_isDot_y hS hi0 hj0) rfl (Nat.le_of_ble_eq_true rfl) ⟨Nat.le_refl _, Nat.le_refl _⟩ rfl (fun H3 r3 q3 => ?_)
      obtain ⟨rfl, rfl⟩ := q3
      refine ew_if_eq (M := mX10_tally) (tgt := 19) dX10_tally_6 rfl (fun h => absurd h (by decide)) (fun _ => ?_)
      refine ew_aload_n (M := mX10_tally) dX10_tally_9 rfl (Or.inr (Or.inl ⟨_, rfl⟩)) ?_
      refine ew_iload_n (M := mX10_tally) dX10_tally_10 rfl ?_
      refine ew_iload (M := mX10_tally) dX10_tally_11 rfl ?_
      refine ew_callV (M := mX10_tally) dX10_tally_13 vX10_140 (by repeat (first | with_reducible assumption | refine ex_eq ?_ | refine ex_ne ?_ (by omega) | exact ex_lt (by with_reducible assumption) | rw [List.length_set] | assumption)) rfl (ms_isDot_n hS hin2) rfl (Nat.le_of_ble_eq_true rfl) ⟨Nat.le_refl _, Nat.le_refl _⟩ rfl (fun H13 r13 q13 => ?_)
      obtain ⟨rfl, rfl⟩ := q13
      refine ew_if_ne (M := mX10_tally) (tgt := 22) dX10_tally_16 rfl (fun h => absurd rfl h) (fun _ => ?_)
      refine ew_ldc (M := mX10_tally) dX10_tally_19 kX10_175 ?_
      refine ew_iret (M := mX10_tally) dX10_tally_21 rfl (by first | rfl | decide) (Nat.le_refl _) (Nat.le_refl _) ?_
      exact ⟨rfl, ex_ch.rf, _, _, _, _, hS⟩
  · rw [cif_n (fun q => hin q.1)]
    refine ew_aload_n (M := mX10_tally) dX10_tally_0 rfl (Or.inr (Or.inl ⟨_, rfl⟩)) ?_
    refine ew_iload_n (M := mX10_tally) dX10_tally_1 rfl ?_
    refine ew_iload_n (M := mX10_tally) dX10_tally_2 rfl ?_
    refine ew_callV (M := mX10_tally) dX10_tally_3 vX10_140 (by repeat (first | with_reducible assumption | refine ex_eq ?_ | refine ex_ne ?_ (by omega) | exact ex_lt (by with_reducible assumption) | rw [List.length_set] | assumption)) rfl (ms_isDot_n hS hin) rfl (Nat.le_of_ble_eq_true rfl) ⟨Nat.le_refl _, Nat.le_refl _⟩ rfl (fun H3 r3 q3 => ?_)
    obtain ⟨rfl, rfl⟩ := q3
    refine ew_if_eq (M := mX10_tally) (tgt := 19) dX10_tally_6 rfl (fun _ => ?_) (fun h => absurd rfl h)
    refine ew_ldc (M := mX10_tally) dX10_tally_19 kX10_175 ?_
    refine ew_iret (M := mX10_tally) dX10_tally_21 rfl (by first | rfl | decide) (Nat.le_refl _) (Nat.le_refl _) ?_
    exact ⟨rfl, ex_ch.rf, _, _, _, _, hS⟩
theorem mfl_add {F : Nat → Int32} {z : Nat × (Nat → FV)} (h : mfl F 0 z) (hn : z.1 < 6) {v : FV} (hv : fvo v) {X : Int32} (hX : X = nI (z.1 + 1)) : mfl (upd (upd (upd (upd (upd (upd F (1 + 5 * z.1) (nI v.1)) (1 + 5 * z.1 + 1) (nI v.2.1)) (1 + 5 * z.1 + 2) (nI v.2.2.1)) (1 + 5 * z.1 + 3) (nI v.2.2.2.1)) (1 + 5 * z.1 + 4) (nI v.2.2.2.2)) 0 X) 0 (z.1 + 1, va_up z.2 z.1 v) := by
  obtain ⟨h1, h2, h3⟩ := h
  refine ⟨hn, by rw [hX]; rfl, fun k hk => ?_⟩
  have hk' : k < z.1 + 1 := hk
  by_cases e : k = z.1
  · subst e
    refine ⟨?_, by simp only [va_up, if_true]; exact hv⟩
    refine ⟨?_, ?_, ?_, ?_, ?_⟩ <;> (simp only [va_up, upd, if_true]; repeat (first | rw [if_pos (by omega)] | rw [if_neg (by omega)]))
  · obtain ⟨⟨g1, g2, g3, g4, g5⟩, g6⟩ := h3 k (by omega)
    refine ⟨?_, by simp only [va_up, if_neg e]; exact g6⟩
    refine ⟨?_, ?_, ?_, ?_, ?_⟩
    · simp only [va_up, upd, if_neg e]; repeat rw [if_neg (by omega)]
      exact g1
    · simp only [va_up, upd, if_neg e]; repeat rw [if_neg (by omega)]
      exact g2
    · simp only [va_up, upd, if_neg e]; repeat rw [if_neg (by omega)]
      exact g3
    · simp only [va_up, upd, if_neg e]; repeat rw [if_neg (by omega)]
      exact g4
    · simp only [va_up, upd, if_neg e]; repeat rw [if_neg (by omega)]
      exact g5
theorem ms_filter {d : Nat} {H : ex_H} {S : SS} (hS : mo_is H S) (ac dn rk bo wt : Int32) : ex_Met mX10_filter (d + 1) 0 0 H [.ref 86, .int ac, .int dn, .int rk, .int bo, .int wt] (fun H' r => r = some (.int (f_filter S ac dn rk bo wt).1) ∧ ex_ch H H' mL ∧ mo_is H' (f_filter S ac dn rk bo wt).2) := by
  obtain ⟨R, mn, C, N, hS⟩ := hS
  obtain ⟨a1, ⟨hfi, hsd, hkp⟩, ⟨W, a2, hw0, ⟨hcn, hwh⟩, hwi⟩, ⟨T, a3, htn, htx⟩, ⟨F, a4, hfl⟩, ⟨IF, IL, IS, a5, a6, a7, him⟩, ⟨BX, BY, BG, a8, a9, a10, hbn, hbk⟩, a11, a12⟩ := id hS
  have e0 : F 0 = nI S.2.2.1.2.1.1 := hfl.2.1
  have h6 := hfl.1
  by_cases hx : fok ac dn rk bo wt
  · obtain ⟨x1, x2, x3, x4, x5⟩ := id hx
    obtain ⟨j1, hj1, rfl⟩ := nI_of3 (by decide) x1
    obtain ⟨j2, hj2, rfl⟩ := nI_of3 (by decide) x2
    obtain ⟨j3, hj3, rfl⟩ := nI_of3 (by decide) x3
    obtain ⟨j4, hj4, rfl⟩ := nI_of3 (by decide) x4
    obtain ⟨j5, hj50, hj5, rfl⟩ := nI_of4 (by decide) x5
    by_cases hn : S.2.2.1.2.1.1 < 6
    · have ef : f_filter S (nI j1) (nI j2) (nI j3) (nI j4) (nI j5) = (nI S.2.2.1.2.1.1, s_now S (S.2.2.1.1, (S.2.2.1.2.1.1 + 1, va_up S.2.2.1.2.1.2 S.2.2.1.2.1.1 (j1, j2, j3, j4, j5)), S.2.2.1.2.2)) := by
        unfold f_filter
        rw [cif_y hx, cif_y hn, nI_clamp (by omega), nI_clamp (by omega), nI_clamp (by omega), nI_clamp (by omega), nI_clamp (by omega)]
      have hX : (upd (upd (upd (upd (upd F (1 + 5 * S.2.2.1.2.1.1) (nI j1)) (1 + 5 * S.2.2.1.2.1.1 + 1) (nI j2)) (1 + 5 * S.2.2.1.2.1.1 + 2) (nI j3)) (1 + 5 * S.2.2.1.2.1.1 + 3) (nI j4)) (1 + 5 * S.2.2.1.2.1.1 + 4) (nI j5)) 0 + nI 1 = nI (S.2.2.1.2.1.1 + 1) := by
        simp only [upd]
        repeat rw [if_neg (by omega)]
        rw [e0, nI_add]
      refine ex_meth [(0, .ref 86), (1, .int (nI j1)), (2, .int (nI j2)), (3, .int (nI j3)), (4, .int (nI j4)), (5, .int (nI j5))] rfl rfl rfl (fun b => Nat.le_of_ble_eq_true rfl) ?_
      refine ew_iload_n (M := mX10_filter) dX10_filter_0 rfl ?_
      refine ew_i2l (M := mX10_filter) dX10_filter_1 ?_
      refine ew_lconst (M := mX10_filter) dX10_filter_2 (v := 0) (by decide) ?_
      refine ew_ldc2 (M := mX10_filter) dX10_filter_3 kX10_180 ?_
      refine ew_callS (M := mX10_filter) dX10_filter_6 vX10_58 (ms_in_y (l := nI 0) (g := nI 4) (by decide) (by decide) x1.1 x1.2) rfl (Nat.le_of_ble_eq_true rfl) ⟨Nat.le_refl _, Nat.le_refl _⟩ rfl (fun H6 r6 q6 => ?_)
      obtain ⟨rfl, rfl⟩ := q6
      refine ew_if_eq (M := mX10_filter) (tgt := 66) dX10_filter_9 rfl (fun h => absurd h (by decide)) (fun _ => ?_)
      refine ew_iload_n (M := mX10_filter) dX10_filter_12 rfl ?_
      refine ew_i2l (M := mX10_filter) dX10_filter_13 ?_
      refine ew_lconst (M := mX10_filter) dX10_filter_14 (v := 0) (by decide) ?_
      refine ew_ldc2 (M := mX10_filter) dX10_filter_15 kX10_180 ?_
      refine ew_callS (M := mX10_filter) dX10_filter_18 vX10_58 (ms_in_y (l := nI 0) (g := nI 4) (by decide) (by decide) x2.1 x2.2) rfl (Nat.le_of_ble_eq_true rfl) ⟨Nat.le_refl _, Nat.le_refl _⟩ rfl (fun H18 r18 q18 => ?_)
      obtain ⟨rfl, rfl⟩ := q18
      refine ew_if_eq (M := mX10_filter) (tgt := 66) dX10_filter_21 rfl (fun h => absurd h (by decide)) (fun _ => ?_)
      refine ew_iload_n (M := mX10_filter) dX10_filter_24 rfl ?_
      refine ew_i2l (M := mX10_filter) dX10_filter_25 ?_
      refine ew_lconst (M := mX10_filter) dX10_filter_26 (v := 0) (by decide) ?_
      refine ew_ldc2 (M := mX10_filter) dX10_filter_27 kX10_182 ?_
      refine ew_callS (M := mX10_filter) dX10_filter_30 vX10_58 (ms_in_y (l := nI 0) (g := nI 100) (by decide) (by decide) x3.1 x3.2) rfl (Nat.le_of_ble_eq_true rfl) ⟨Nat.le_refl _, Nat.le_refl _⟩ rfl (fun H30 r30 q30 => ?_)
      obtain ⟨rfl, rfl⟩ := q30
      refine ew_if_eq (M := mX10_filter) (tgt := 66) dX10_filter_33 rfl (fun h => absurd h (by decide)) (fun _ => ?_)
      refine ew_iload (M := mX10_filter) dX10_filter_36 rfl ?_
      refine ew_i2l (M := mX10_filter) dX10_filter_38 ?_
      refine ew_lconst (M := mX10_filter) dX10_filter_39 (v := 0) (by decide) ?_
      refine ew_ldc2 (M := mX10_filter) dX10_filter_40 kX10_180 ?_
      refine ew_callS (M := mX10_filter) dX10_filter_43 vX10_58 (ms_in_y (l := nI 0) (g := nI 4) (by decide) (by decide) x4.1 x4.2) rfl (Nat.le_of_ble_eq_true rfl) ⟨Nat.le_refl _, Nat.le_refl _⟩ rfl (fun H43 r43 q43 => ?_)
      obtain ⟨rfl, rfl⟩ := q43
      refine ew_if_eq (M := mX10_filter) (tgt := 66) dX10_filter_46 rfl (fun h => absurd h (by decide)) (fun _ => ?_)
      refine ew_iload (M := mX10_filter) dX10_filter_49 rfl ?_
      refine ew_i2l (M := mX10_filter) dX10_filter_51 ?_
      refine ew_lconst (M := mX10_filter) dX10_filter_52 (v := 1) (by decide) ?_
      refine ew_ldc2 (M := mX10_filter) dX10_filter_53 kX10_184 ?_
      refine ew_callS (M := mX10_filter) dX10_filter_56 vX10_58 (ms_in_y (l := nI 1) (g := nI 9) (by decide) (by decide) x5.1 x5.2) rfl (Nat.le_of_ble_eq_true rfl) ⟨Nat.le_refl _, Nat.le_refl _⟩ rfl (fun H56 r56 q56 => ?_)
      obtain ⟨rfl, rfl⟩ := q56
      refine ew_if_eq (M := mX10_filter) (tgt := 66) dX10_filter_59 rfl (fun h => absurd h (by decide)) (fun _ => ?_)
      refine ew_iconst (M := mX10_filter) dX10_filter_62 (v := nI 1) (by decide) ?_
      refine ew_goto (M := mX10_filter) (tgt := 67) dX10_filter_63 rfl ?_
      refine ew_istore (M := mX10_filter) dX10_filter_67 (by decide) rfl ?_
      refine ew_iload (M := mX10_filter) dX10_filter_69 rfl ?_
      refine ew_if_ne (M := mX10_filter) (tgt := 77) dX10_filter_71 rfl (fun _ => ?_) (fun h => absurd h (by decide))
      refine ew_aload_n (M := mX10_filter) dX10_filter_77 rfl (Or.inr (Or.inl ⟨_, rfl⟩)) ?_
      refine ew_get (M := mX10_filter) dX10_filter_78 fX10_20 (by repeat (first | with_reducible assumption | refine ex_eq ?_ | refine ex_ne ?_ (by omega) | exact ex_lt (by with_reducible assumption) | rw [List.length_set] | assumption)) (by rfl) ?_
      refine ew_iconst (M := mX10_filter) dX10_filter_81 (v := nI 0) (by decide) ?_
      refine ew_iald (M := mX10_filter) 0 dX10_filter_82 (by repeat (first | with_reducible assumption | refine ex_eq ?_ | refine ex_ne ?_ (by omega) | exact ex_lt (by with_reducible assumption) | rw [List.length_set] | assumption)) ⟨rfl, by decide, by decide⟩ ?_
      rw [e0]
      refine ew_bipush (M := mX10_filter) dX10_filter_83 (v := nI 6) (by decide) ?_
      refine ew_icmp_ne (M := mX10_filter) (tgt := 91) dX10_filter_85 rfl (fun _ => ?_) (fun h => absurd h (fun e => by rw [nI_eq (by omega) (by decide)] at e; omega))
      refine ew_iconst (M := mX10_filter) dX10_filter_91 (v := nI 1) (by decide) ?_
      refine ew_iconst (M := mX10_filter) dX10_filter_92 (v := nI 5) (by decide) ?_
      refine ew_aload_n (M := mX10_filter) dX10_filter_93 rfl (Or.inr (Or.inl ⟨_, rfl⟩)) ?_
      refine ew_get (M := mX10_filter) dX10_filter_94 fX10_20 (by repeat (first | with_reducible assumption | refine ex_eq ?_ | refine ex_ne ?_ (by omega) | exact ex_lt (by with_reducible assumption) | rw [List.length_set] | assumption)) (by rfl) ?_
      refine ew_iconst (M := mX10_filter) dX10_filter_97 (v := nI 0) (by decide) ?_
      refine ew_iald (M := mX10_filter) 0 dX10_filter_98 (by repeat (first | with_reducible assumption | refine ex_eq ?_ | refine ex_ne ?_ (by omega) | exact ex_lt (by with_reducible assumption) | rw [List.length_set] | assumption)) ⟨rfl, by decide, by decide⟩ ?_
      refine ew_imul (M := mX10_filter) dX10_filter_99 ?_
      refine ew_iadd (M := mX10_filter) dX10_filter_100 ?_
      rw [e0, pk_mul, nI_add]
      refine ew_istore (M := mX10_filter) dX10_filter_101 (by decide) rfl ?_
      refine ew_aload_n (M := mX10_filter) dX10_filter_103 rfl (Or.inr (Or.inl ⟨_, rfl⟩)) ?_
      refine ew_get (M := mX10_filter) dX10_filter_104 fX10_20 (by repeat (first | with_reducible assumption | refine ex_eq ?_ | refine ex_ne ?_ (by omega) | exact ex_lt (by with_reducible assumption) | rw [List.length_set] | assumption)) (by rfl) ?_
      refine ew_iload (M := mX10_filter) dX10_filter_107 rfl ?_
      refine ew_iload_n (M := mX10_filter) dX10_filter_109 rfl ?_
      refine ew_iast (M := mX10_filter) (1 + 5 * S.2.2.1.2.1.1) dX10_filter_110 (by repeat (first | with_reducible assumption | refine ex_eq ?_ | refine ex_ne ?_ (by omega) | exact ex_lt (by with_reducible assumption) | rw [List.length_set] | assumption)) ⟨rfl, by omega, by decide⟩ ?_
      refine ew_aload_n (M := mX10_filter) dX10_filter_111 rfl (Or.inr (Or.inl ⟨_, rfl⟩)) ?_
      refine ew_get (M := mX10_filter) dX10_filter_112 fX10_20 (by repeat (first | with_reducible assumption | refine ex_eq ?_ | refine ex_ne ?_ (by omega) | exact ex_lt (by with_reducible assumption) | rw [List.length_set] | assumption)) (by rfl) ?_
      refine ew_iload (M := mX10_filter) dX10_filter_115 rfl ?_
      refine ew_iconst (M := mX10_filter) dX10_filter_117 (v := nI 1) (by decide) ?_
      refine ew_iadd (M := mX10_filter) dX10_filter_118 ?_
      refine ew_iload_n (M := mX10_filter) dX10_filter_119 rfl ?_
      refine ew_iast (M := mX10_filter) (1 + 5 * S.2.2.1.2.1.1 + 1) dX10_filter_120 (by repeat (first | with_reducible assumption | refine ex_eq ?_ | refine ex_ne ?_ (by omega) | exact ex_lt (by with_reducible assumption) | rw [List.length_set] | assumption)) ⟨by rw [nI_add], by omega, by decide⟩ ?_
      refine ew_aload_n (M := mX10_filter) dX10_filter_121 rfl (Or.inr (Or.inl ⟨_, rfl⟩)) ?_
      refine ew_get (M := mX10_filter) dX10_filter_122 fX10_20 (by repeat (first | with_reducible assumption | refine ex_eq ?_ | refine ex_ne ?_ (by omega) | exact ex_lt (by with_reducible assumption) | rw [List.length_set] | assumption)) (by rfl) ?_
      refine ew_iload (M := mX10_filter) dX10_filter_125 rfl ?_
      refine ew_iconst (M := mX10_filter) dX10_filter_127 (v := nI 2) (by decide) ?_
      refine ew_iadd (M := mX10_filter) dX10_filter_128 ?_
      refine ew_iload_n (M := mX10_filter) dX10_filter_129 rfl ?_
      refine ew_iast (M := mX10_filter) (1 + 5 * S.2.2.1.2.1.1 + 2) dX10_filter_130 (by repeat (first | with_reducible assumption | refine ex_eq ?_ | refine ex_ne ?_ (by omega) | exact ex_lt (by with_reducible assumption) | rw [List.length_set] | assumption)) ⟨by rw [nI_add], by omega, by decide⟩ ?_
      refine ew_aload_n (M := mX10_filter) dX10_filter_131 rfl (Or.inr (Or.inl ⟨_, rfl⟩)) ?_
      refine ew_get (M := mX10_filter) dX10_filter_132 fX10_20 (by repeat (first | with_reducible assumption | refine ex_eq ?_ | refine ex_ne ?_ (by omega) | exact ex_lt (by with_reducible assumption) | rw [List.length_set] | assumption)) (by rfl) ?_
      refine ew_iload (M := mX10_filter) dX10_filter_135 rfl ?_
      refine ew_iconst (M := mX10_filter) dX10_filter_137 (v := nI 3) (by decide) ?_
      refine ew_iadd (M := mX10_filter) dX10_filter_138 ?_
      refine ew_iload (M := mX10_filter) dX10_filter_139 rfl ?_
      refine ew_iast (M := mX10_filter) (1 + 5 * S.2.2.1.2.1.1 + 3) dX10_filter_141 (by repeat (first | with_reducible assumption | refine ex_eq ?_ | refine ex_ne ?_ (by omega) | exact ex_lt (by with_reducible assumption) | rw [List.length_set] | assumption)) ⟨by rw [nI_add], by omega, by decide⟩ ?_
      refine ew_aload_n (M := mX10_filter) dX10_filter_142 rfl (Or.inr (Or.inl ⟨_, rfl⟩)) ?_
      refine ew_get (M := mX10_filter) dX10_filter_143 fX10_20 (by repeat (first | with_reducible assumption | refine ex_eq ?_ | refine ex_ne ?_ (by omega) | exact ex_lt (by with_reducible assumption) | rw [List.length_set] | assumption)) (by rfl) ?_
      refine ew_iload (M := mX10_filter) dX10_filter_146 rfl ?_
      refine ew_iconst (M := mX10_filter) dX10_filter_148 (v := nI 4) (by decide) ?_
      refine ew_iadd (M := mX10_filter) dX10_filter_149 ?_
      refine ew_iload (M := mX10_filter) dX10_filter_150 rfl ?_
      refine ew_iast (M := mX10_filter) (1 + 5 * S.2.2.1.2.1.1 + 4) dX10_filter_152 (by repeat (first | with_reducible assumption | refine ex_eq ?_ | refine ex_ne ?_ (by omega) | exact ex_lt (by with_reducible assumption) | rw [List.length_set] | assumption)) ⟨by rw [nI_add], by omega, by decide⟩ ?_
      refine ew_aload_n (M := mX10_filter) dX10_filter_153 rfl (Or.inr (Or.inl ⟨_, rfl⟩)) ?_
      refine ew_get (M := mX10_filter) dX10_filter_154 fX10_20 (by repeat (first | with_reducible assumption | refine ex_eq ?_ | refine ex_ne ?_ (by omega) | exact ex_lt (by with_reducible assumption) | rw [List.length_set] | assumption)) (by rfl) ?_
      refine ew_iconst (M := mX10_filter) dX10_filter_157 (v := nI 0) (by decide) ?_
      refine ew_dup2 (M := mX10_filter) dX10_filter_158 rfl rfl ?_
      refine ew_iald (M := mX10_filter) 0 dX10_filter_159 (by repeat (first | with_reducible assumption | refine ex_eq ?_ | refine ex_ne ?_ (by omega) | exact ex_lt (by with_reducible assumption) | rw [List.length_set] | assumption)) ⟨rfl, by decide, by decide⟩ ?_
      refine ew_iconst (M := mX10_filter) dX10_filter_160 (v := nI 1) (by decide) ?_
      refine ew_iadd (M := mX10_filter) dX10_filter_161 ?_
      rw [hX]
      refine ew_iast (M := mX10_filter) 0 dX10_filter_162 (by repeat (first | with_reducible assumption | refine ex_eq ?_ | refine ex_ne ?_ (by omega) | exact ex_lt (by with_reducible assumption) | rw [List.length_set] | assumption)) ⟨rfl, by decide, by decide⟩ ?_
      refine ew_aload_n (M := mX10_filter) dX10_filter_163 rfl (Or.inr (Or.inl ⟨_, rfl⟩)) ?_
      refine ew_get (M := mX10_filter) dX10_filter_164 fX10_20 (by repeat (first | with_reducible assumption | refine ex_eq ?_ | refine ex_ne ?_ (by omega) | exact ex_lt (by with_reducible assumption) | rw [List.length_set] | assumption)) (by rfl) ?_
      refine ew_iconst (M := mX10_filter) dX10_filter_167 (v := nI 0) (by decide) ?_
      refine ew_iald (M := mX10_filter) 0 dX10_filter_168 (by repeat (first | with_reducible assumption | refine ex_eq ?_ | refine ex_ne ?_ (by omega) | exact ex_lt (by with_reducible assumption) | rw [List.length_set] | assumption)) ⟨rfl, by decide, by decide⟩ ?_
      refine ew_iconst (M := mX10_filter) dX10_filter_169 (v := nI 1) (by decide) ?_
      refine ew_isub (M := mX10_filter) dX10_filter_170 ?_
      refine ew_iret (M := mX10_filter) dX10_filter_171 rfl (by first | rfl | decide) (Nat.le_refl _) (Nat.le_refl _) ?_
      refine ⟨?_, (((((ex_ch.rf.set (by decide)).set (by decide)).set (by decide)).set (by decide)).set (by decide)).set (by decide), ?_⟩
      · rw [ef]
        show some (Value.int (nI (S.2.2.1.2.1.1 + 1) - nI 1)) = _
        rw [nI_s1 (by omega)]
        rfl
      · rw [ef]
        exact ⟨R, mn, C, N, (by repeat (first | with_reducible assumption | refine ex_eq ?_ | refine ex_ne ?_ (by omega) | exact ex_lt (by with_reducible assumption) | rw [List.length_set] | assumption)), ⟨hfi, hsd, hkp⟩, ⟨W, (by repeat (first | with_reducible assumption | refine ex_eq ?_ | refine ex_ne ?_ (by omega) | exact ex_lt (by with_reducible assumption) | rw [List.length_set] | assumption)), hw0, ⟨hcn, hwh⟩, hwi⟩, ⟨T, (by repeat (first | with_reducible assumption | refine ex_eq ?_ | refine ex_ne ?_ (by omega) | exact ex_lt (by with_reducible assumption) | rw [List.length_set] | assumption)), htn, htx⟩, ⟨_, (by repeat (first | with_reducible assumption | refine ex_eq ?_ | refine ex_ne ?_ (by omega) | exact ex_lt (by with_reducible assumption) | rw [List.length_set] | assumption)), mfl_add (z := S.2.2.1.2.1) (v := (j1, j2, j3, j4, j5)) hfl hn ⟨hj1, hj2, hj3, hj4, hj50, hj5⟩ rfl⟩, ⟨IF, IL, IS, (by repeat (first | with_reducible assumption | refine ex_eq ?_ | refine ex_ne ?_ (by omega) | exact ex_lt (by with_reducible assumption) | rw [List.length_set] | assumption)), (by repeat (first | with_reducible assumption | refine ex_eq ?_ | refine ex_ne ?_ (by omega) | exact ex_lt (by with_reducible assumption) | rw [List.length_set] | assumption)), (by repeat (first | with_reducible assumption | refine ex_eq ?_ | refine ex_ne ?_ (by omega) | exact ex_lt (by with_reducible assumption) | rw [List.length_set] | assumption)), him⟩, ⟨BX, BY, BG, (by repeat (first | with_reducible assumption | refine ex_eq ?_ | refine ex_ne ?_ (by omega) | exact ex_lt (by with_reducible assumption) | rw [List.length_set] | assumption)), (by repeat (first | with_reducible assumption | refine ex_eq ?_ | refine ex_ne ?_ (by omega) | exact ex_lt (by with_reducible assumption) | rw [List.length_set] | assumption)), (by repeat (first | with_reducible assumption | refine ex_eq ?_ | refine ex_ne ?_ (by omega) | exact ex_lt (by with_reducible assumption) | rw [List.length_set] | assumption)), hbn, hbk⟩, (by repeat (first | with_reducible assumption | refine ex_eq ?_ | refine ex_ne ?_ (by omega) | exact ex_lt (by with_reducible assumption) | rw [List.length_set] | assumption)), (by repeat (first | with_reducible assumption | refine ex_eq ?_ | refine ex_ne ?_ (by omega) | exact ex_lt (by with_reducible assumption) | rw [List.length_set] | assumption))⟩
    · have ef : f_filter S (nI j1) (nI j2) (nI j3) (nI j4) (nI j5) = (-1000000004, S) := by
        unfold f_filter
        rw [cif_y hx, cif_n hn]
      refine ex_meth [(0, .ref 86), (1, .int (nI j1)), (2, .int (nI j2)), (3, .int (nI j3)), (4, .int (nI j4)), (5, .int (nI j5))] rfl rfl rfl (fun b => Nat.le_of_ble_eq_true rfl) ?_
      refine ew_iload_n (M := mX10_filter) dX10_filter_0 rfl ?_
      refine ew_i2l (M := mX10_filter) dX10_filter_1 ?_
      refine ew_lconst (M := mX10_filter) dX10_filter_2 (v := 0) (by decide) ?_
      refine ew_ldc2 (M := mX10_filter) dX10_filter_3 kX10_180 ?_
      refine ew_callS (M := mX10_filter) dX10_filter_6 vX10_58 (ms_in_y (l := nI 0) (g := nI 4) (by decide) (by decide) x1.1 x1.2) rfl (Nat.le_of_ble_eq_true rfl) ⟨Nat.le_refl _, Nat.le_refl _⟩ rfl (fun H6 r6 q6 => ?_)
      obtain ⟨rfl, rfl⟩ := q6
      refine ew_if_eq (M := mX10_filter) (tgt := 66) dX10_filter_9 rfl (fun h => absurd h (by decide)) (fun _ => ?_)
      refine ew_iload_n (M := mX10_filter) dX10_filter_12 rfl ?_
      refine ew_i2l (M := mX10_filter) dX10_filter_13 ?_
      refine ew_lconst (M := mX10_filter) dX10_filter_14 (v := 0) (by decide) ?_
      refine ew_ldc2 (M := mX10_filter) dX10_filter_15 kX10_180 ?_
      refine ew_callS (M := mX10_filter) dX10_filter_18 vX10_58 (ms_in_y (l := nI 0) (g := nI 4) (by decide) (by decide) x2.1 x2.2) rfl (Nat.le_of_ble_eq_true rfl) ⟨Nat.le_refl _, Nat.le_refl _⟩ rfl (fun H18 r18 q18 => ?_)
      obtain ⟨rfl, rfl⟩ := q18
      refine ew_if_eq (M := mX10_filter) (tgt := 66) dX10_filter_21 rfl (fun h => absurd h (by decide)) (fun _ => ?_)
      refine ew_iload_n (M := mX10_filter) dX10_filter_24 rfl ?_
      refine ew_i2l (M := mX10_filter) dX10_filter_25 ?_
      refine ew_lconst (M := mX10_filter) dX10_filter_26 (v := 0) (by decide) ?_
      refine ew_ldc2 (M := mX10_filter) dX10_filter_27 kX10_182 ?_
      refine ew_callS (M := mX10_filter) dX10_filter_30 vX10_58 (ms_in_y (l := nI 0) (g := nI 100) (by decide) (by decide) x3.1 x3.2) rfl (Nat.le_of_ble_eq_true rfl) ⟨Nat.le_refl _, Nat.le_refl _⟩ rfl (fun H30 r30 q30 => ?_)
      obtain ⟨rfl, rfl⟩ := q30
      refine ew_if_eq (M := mX10_filter) (tgt := 66) dX10_filter_33 rfl (fun h => absurd h (by decide)) (fun _ => ?_)
      refine ew_iload (M := mX10_filter) dX10_filter_36 rfl ?_
      refine ew_i2l (M := mX10_filter) dX10_filter_38 ?_
      refine ew_lconst (M := mX10_filter) dX10_filter_39 (v := 0) (by decide) ?_
      refine ew_ldc2 (M := mX10_filter) dX10_filter_40 kX10_180 ?_
      refine ew_callS (M := mX10_filter) dX10_filter_43 vX10_58 (ms_in_y (l := nI 0) (g := nI 4) (by decide) (by decide) x4.1 x4.2) rfl (Nat.le_of_ble_eq_true rfl) ⟨Nat.le_refl _, Nat.le_refl _⟩ rfl (fun H43 r43 q43 => ?_)
      obtain ⟨rfl, rfl⟩ := q43
      refine ew_if_eq (M := mX10_filter) (tgt := 66) dX10_filter_46 rfl (fun h => absurd h (by decide)) (fun _ => ?_)
      refine ew_iload (M := mX10_filter) dX10_filter_49 rfl ?_
      refine ew_i2l (M := mX10_filter) dX10_filter_51 ?_
      refine ew_lconst (M := mX10_filter) dX10_filter_52 (v := 1) (by decide) ?_
      refine ew_ldc2 (M := mX10_filter) dX10_filter_53 kX10_184 ?_
      refine ew_callS (M := mX10_filter) dX10_filter_56 vX10_58 (ms_in_y (l := nI 1) (g := nI 9) (by decide) (by decide) x5.1 x5.2) rfl (Nat.le_of_ble_eq_true rfl) ⟨Nat.le_refl _, Nat.le_refl _⟩ rfl (fun H56 r56 q56 => ?_)
      obtain ⟨rfl, rfl⟩ := q56
      refine ew_if_eq (M := mX10_filter) (tgt := 66) dX10_filter_59 rfl (fun h => absurd h (by decide)) (fun _ => ?_)
      refine ew_iconst (M := mX10_filter) dX10_filter_62 (v := nI 1) (by decide) ?_
      refine ew_goto (M := mX10_filter) (tgt := 67) dX10_filter_63 rfl ?_
      refine ew_istore (M := mX10_filter) dX10_filter_67 (by decide) rfl ?_
      refine ew_iload (M := mX10_filter) dX10_filter_69 rfl ?_
      refine ew_if_ne (M := mX10_filter) (tgt := 77) dX10_filter_71 rfl (fun _ => ?_) (fun h => absurd h (by decide))
      refine ew_aload_n (M := mX10_filter) dX10_filter_77 rfl (Or.inr (Or.inl ⟨_, rfl⟩)) ?_
      refine ew_get (M := mX10_filter) dX10_filter_78 fX10_20 (by repeat (first | with_reducible assumption | refine ex_eq ?_ | refine ex_ne ?_ (by omega) | exact ex_lt (by with_reducible assumption) | rw [List.length_set] | assumption)) (by rfl) ?_
      refine ew_iconst (M := mX10_filter) dX10_filter_81 (v := nI 0) (by decide) ?_
      refine ew_iald (M := mX10_filter) 0 dX10_filter_82 (by repeat (first | with_reducible assumption | refine ex_eq ?_ | refine ex_ne ?_ (by omega) | exact ex_lt (by with_reducible assumption) | rw [List.length_set] | assumption)) ⟨rfl, by decide, by decide⟩ ?_
      rw [e0]
      refine ew_bipush (M := mX10_filter) dX10_filter_83 (v := nI 6) (by decide) ?_
      refine ew_icmp_ne (M := mX10_filter) (tgt := 91) dX10_filter_85 rfl (fun h => absurd (by rw [show S.2.2.1.2.1.1 = 6 by omega]) h) (fun _ => ?_)
      refine ew_ldc (M := mX10_filter) dX10_filter_88 kX10_111 ?_
      refine ew_iret (M := mX10_filter) dX10_filter_90 rfl (by first | rfl | decide) (Nat.le_refl _) (Nat.le_refl _) ?_
      exact ⟨by rw [ef], ex_ch.rf, by rw [ef]; exact ⟨_, _, _, _, hS⟩⟩
  · have ef : f_filter S ac dn rk bo wt = (-1000000002, S) := by
      unfold f_filter
      rw [cif_n hx]
    by_cases x1 : nI 0 ≤ ac ∧ ac ≤ nI 4
    · skip
      by_cases x2 : nI 0 ≤ dn ∧ dn ≤ nI 4
      · skip
        by_cases x3 : nI 0 ≤ rk ∧ rk ≤ nI 100
        · skip
          by_cases x4 : nI 0 ≤ bo ∧ bo ≤ nI 4
          · skip
            have x5 : ¬ (nI 1 ≤ wt ∧ wt ≤ nI 9) := fun x5 => hx ⟨x1, x2, x3, x4, x5⟩
            refine ex_meth [(0, .ref 86), (1, .int ac), (2, .int dn), (3, .int rk), (4, .int bo), (5, .int wt)] rfl rfl rfl (fun b => Nat.le_of_ble_eq_true rfl) ?_
            refine ew_iload_n (M := mX10_filter) dX10_filter_0 rfl ?_
            refine ew_i2l (M := mX10_filter) dX10_filter_1 ?_
            refine ew_lconst (M := mX10_filter) dX10_filter_2 (v := 0) (by decide) ?_
            refine ew_ldc2 (M := mX10_filter) dX10_filter_3 kX10_180 ?_
            refine ew_callS (M := mX10_filter) dX10_filter_6 vX10_58 (ms_in_y (l := nI 0) (g := nI 4) (by decide) (by decide) x1.1 x1.2) rfl (Nat.le_of_ble_eq_true rfl) ⟨Nat.le_refl _, Nat.le_refl _⟩ rfl (fun H6 r6 q6 => ?_)
            obtain ⟨rfl, rfl⟩ := q6
            refine ew_if_eq (M := mX10_filter) (tgt := 66) dX10_filter_9 rfl (fun h => absurd h (by decide)) (fun _ => ?_)
            refine ew_iload_n (M := mX10_filter) dX10_filter_12 rfl ?_
            refine ew_i2l (M := mX10_filter) dX10_filter_13 ?_
            refine ew_lconst (M := mX10_filter) dX10_filter_14 (v := 0) (by decide) ?_
            refine ew_ldc2 (M := mX10_filter) dX10_filter_15 kX10_180 ?_
            refine ew_callS (M := mX10_filter) dX10_filter_18 vX10_58 (ms_in_y (l := nI 0) (g := nI 4) (by decide) (by decide) x2.1 x2.2) rfl (Nat.le_of_ble_eq_true rfl) ⟨Nat.le_refl _, Nat.le_refl _⟩ rfl (fun H18 r18 q18 => ?_)
            obtain ⟨rfl, rfl⟩ := q18
            refine ew_if_eq (M := mX10_filter) (tgt := 66) dX10_filter_21 rfl (fun h => absurd h (by decide)) (fun _ => ?_)
            refine ew_iload_n (M := mX10_filter) dX10_filter_24 rfl ?_
            refine ew_i2l (M := mX10_filter) dX10_filter_25 ?_
            refine ew_lconst (M := mX10_filter) dX10_filter_26 (v := 0) (by decide) ?_
            refine ew_ldc2 (M := mX10_filter) dX10_filter_27 kX10_182 ?_
            refine ew_callS (M := mX10_filter) dX10_filter_30 vX10_58 (ms_in_y (l := nI 0) (g := nI 100) (by decide) (by decide) x3.1 x3.2) rfl (Nat.le_of_ble_eq_true rfl) ⟨Nat.le_refl _, Nat.le_refl _⟩ rfl (fun H30 r30 q30 => ?_)
            obtain ⟨rfl, rfl⟩ := q30
            refine ew_if_eq (M := mX10_filter) (tgt := 66) dX10_filter_33 rfl (fun h => absurd h (by decide)) (fun _ => ?_)
            refine ew_iload (M := mX10_filter) dX10_filter_36 rfl ?_
            refine ew_i2l (M := mX10_filter) dX10_filter_38 ?_
            refine ew_lconst (M := mX10_filter) dX10_filter_39 (v := 0) (by decide) ?_
            refine ew_ldc2 (M := mX10_filter) dX10_filter_40 kX10_180 ?_
            refine ew_callS (M := mX10_filter) dX10_filter_43 vX10_58 (ms_in_y (l := nI 0) (g := nI 4) (by decide) (by decide) x4.1 x4.2) rfl (Nat.le_of_ble_eq_true rfl) ⟨Nat.le_refl _, Nat.le_refl _⟩ rfl (fun H43 r43 q43 => ?_)
            obtain ⟨rfl, rfl⟩ := q43
            refine ew_if_eq (M := mX10_filter) (tgt := 66) dX10_filter_46 rfl (fun h => absurd h (by decide)) (fun _ => ?_)
            refine ew_iload (M := mX10_filter) dX10_filter_49 rfl ?_
            refine ew_i2l (M := mX10_filter) dX10_filter_51 ?_
            refine ew_lconst (M := mX10_filter) dX10_filter_52 (v := 1) (by decide) ?_
            refine ew_ldc2 (M := mX10_filter) dX10_filter_53 kX10_184 ?_
            refine ew_callS (M := mX10_filter) dX10_filter_56 vX10_58 (ms_in_n (l := nI 1) (g := nI 9) (by decide) (by decide) x5) rfl (Nat.le_of_ble_eq_true rfl) ⟨Nat.le_refl _, Nat.le_refl _⟩ rfl (fun H56 r56 q56 => ?_)
            obtain ⟨rfl, rfl⟩ := q56
            refine ew_if_eq (M := mX10_filter) (tgt := 66) dX10_filter_59 rfl (fun _ => ?_) (fun h => absurd (by decide) h)
            refine ew_iconst (M := mX10_filter) dX10_filter_66 (v := nI 0) (by decide) ?_
            refine ew_istore (M := mX10_filter) dX10_filter_67 (by decide) rfl ?_
            refine ew_iload (M := mX10_filter) dX10_filter_69 rfl ?_
            refine ew_if_ne (M := mX10_filter) (tgt := 77) dX10_filter_71 rfl (fun h => absurd (by decide) h) (fun _ => ?_)
            refine ew_ldc (M := mX10_filter) dX10_filter_74 kX10_110 ?_
            refine ew_iret (M := mX10_filter) dX10_filter_76 rfl (by first | rfl | decide) (Nat.le_refl _) (Nat.le_refl _) ?_
            exact ⟨by rw [ef], ex_ch.rf, by rw [ef]; exact ⟨_, _, _, _, hS⟩⟩
          · refine ex_meth [(0, .ref 86), (1, .int ac), (2, .int dn), (3, .int rk), (4, .int bo), (5, .int wt)] rfl rfl rfl (fun b => Nat.le_of_ble_eq_true rfl) ?_
            refine ew_iload_n (M := mX10_filter) dX10_filter_0 rfl ?_
            refine ew_i2l (M := mX10_filter) dX10_filter_1 ?_
            refine ew_lconst (M := mX10_filter) dX10_filter_2 (v := 0) (by decide) ?_
            refine ew_ldc2 (M := mX10_filter) dX10_filter_3 kX10_180 ?_
            refine ew_callS (M := mX10_filter) dX10_filter_6 vX10_58 (ms_in_y (l := nI 0) (g := nI 4) (by decide) (by decide) x1.1 x1.2) rfl (Nat.le_of_ble_eq_true rfl) ⟨Nat.le_refl _, Nat.le_refl _⟩ rfl (fun H6 r6 q6 => ?_)
            obtain ⟨rfl, rfl⟩ := q6
            refine ew_if_eq (M := mX10_filter) (tgt := 66) dX10_filter_9 rfl (fun h => absurd h (by decide)) (fun _ => ?_)
            refine ew_iload_n (M := mX10_filter) dX10_filter_12 rfl ?_
            refine ew_i2l (M := mX10_filter) dX10_filter_13 ?_
            refine ew_lconst (M := mX10_filter) dX10_filter_14 (v := 0) (by decide) ?_
            refine ew_ldc2 (M := mX10_filter) dX10_filter_15 kX10_180 ?_
            refine ew_callS (M := mX10_filter) dX10_filter_18 vX10_58 (ms_in_y (l := nI 0) (g := nI 4) (by decide) (by decide) x2.1 x2.2) rfl (Nat.le_of_ble_eq_true rfl) ⟨Nat.le_refl _, Nat.le_refl _⟩ rfl (fun H18 r18 q18 => ?_)
            obtain ⟨rfl, rfl⟩ := q18
            refine ew_if_eq (M := mX10_filter) (tgt := 66) dX10_filter_21 rfl (fun h => absurd h (by decide)) (fun _ => ?_)
            refine ew_iload_n (M := mX10_filter) dX10_filter_24 rfl ?_
            refine ew_i2l (M := mX10_filter) dX10_filter_25 ?_
            refine ew_lconst (M := mX10_filter) dX10_filter_26 (v := 0) (by decide) ?_
            refine ew_ldc2 (M := mX10_filter) dX10_filter_27 kX10_182 ?_
            refine ew_callS (M := mX10_filter) dX10_filter_30 vX10_58 (ms_in_y (l := nI 0) (g := nI 100) (by decide) (by decide) x3.1 x3.2) rfl (Nat.le_of_ble_eq_true rfl) ⟨Nat.le_refl _, Nat.le_refl _⟩ rfl (fun H30 r30 q30 => ?_)
            obtain ⟨rfl, rfl⟩ := q30
            refine ew_if_eq (M := mX10_filter) (tgt := 66) dX10_filter_33 rfl (fun h => absurd h (by decide)) (fun _ => ?_)
            refine ew_iload (M := mX10_filter) dX10_filter_36 rfl ?_
            refine ew_i2l (M := mX10_filter) dX10_filter_38 ?_
            refine ew_lconst (M := mX10_filter) dX10_filter_39 (v := 0) (by decide) ?_
            refine ew_ldc2 (M := mX10_filter) dX10_filter_40 kX10_180 ?_
            refine ew_callS (M := mX10_filter) dX10_filter_43 vX10_58 (ms_in_n (l := nI 0) (g := nI 4) (by decide) (by decide) x4) rfl (Nat.le_of_ble_eq_true rfl) ⟨Nat.le_refl _, Nat.le_refl _⟩ rfl (fun H43 r43 q43 => ?_)
            obtain ⟨rfl, rfl⟩ := q43
            refine ew_if_eq (M := mX10_filter) (tgt := 66) dX10_filter_46 rfl (fun _ => ?_) (fun h => absurd (by decide) h)
            refine ew_iconst (M := mX10_filter) dX10_filter_66 (v := nI 0) (by decide) ?_
            refine ew_istore (M := mX10_filter) dX10_filter_67 (by decide) rfl ?_
            refine ew_iload (M := mX10_filter) dX10_filter_69 rfl ?_
            refine ew_if_ne (M := mX10_filter) (tgt := 77) dX10_filter_71 rfl (fun h => absurd (by decide) h) (fun _ => ?_)
            refine ew_ldc (M := mX10_filter) dX10_filter_74 kX10_110 ?_
            refine ew_iret (M := mX10_filter) dX10_filter_76 rfl (by first | rfl | decide) (Nat.le_refl _) (Nat.le_refl _) ?_
            exact ⟨by rw [ef], ex_ch.rf, by rw [ef]; exact ⟨_, _, _, _, hS⟩⟩
        · refine ex_meth [(0, .ref 86), (1, .int ac), (2, .int dn), (3, .int rk), (4, .int bo), (5, .int wt)] rfl rfl rfl (fun b => Nat.le_of_ble_eq_true rfl) ?_
          refine ew_iload_n (M := mX10_filter) dX10_filter_0 rfl ?_
          refine ew_i2l (M := mX10_filter) dX10_filter_1 ?_
          refine ew_lconst (M := mX10_filter) dX10_filter_2 (v := 0) (by decide) ?_
          refine ew_ldc2 (M := mX10_filter) dX10_filter_3 kX10_180 ?_
          refine ew_callS (M := mX10_filter) dX10_filter_6 vX10_58 (ms_in_y (l := nI 0) (g := nI 4) (by decide) (by decide) x1.1 x1.2) rfl (Nat.le_of_ble_eq_true rfl) ⟨Nat.le_refl _, Nat.le_refl _⟩ rfl (fun H6 r6 q6 => ?_)
          obtain ⟨rfl, rfl⟩ := q6
          refine ew_if_eq (M := mX10_filter) (tgt := 66) dX10_filter_9 rfl (fun h => absurd h (by decide)) (fun _ => ?_)
          refine ew_iload_n (M := mX10_filter) dX10_filter_12 rfl ?_
          refine ew_i2l (M := mX10_filter) dX10_filter_13 ?_
          refine ew_lconst (M := mX10_filter) dX10_filter_14 (v := 0) (by decide) ?_
          refine ew_ldc2 (M := mX10_filter) dX10_filter_15 kX10_180 ?_
          refine ew_callS (M := mX10_filter) dX10_filter_18 vX10_58 (ms_in_y (l := nI 0) (g := nI 4) (by decide) (by decide) x2.1 x2.2) rfl (Nat.le_of_ble_eq_true rfl) ⟨Nat.le_refl _, Nat.le_refl _⟩ rfl (fun H18 r18 q18 => ?_)
          obtain ⟨rfl, rfl⟩ := q18
          refine ew_if_eq (M := mX10_filter) (tgt := 66) dX10_filter_21 rfl (fun h => absurd h (by decide)) (fun _ => ?_)
          refine ew_iload_n (M := mX10_filter) dX10_filter_24 rfl ?_
          refine ew_i2l (M := mX10_filter) dX10_filter_25 ?_
          refine ew_lconst (M := mX10_filter) dX10_filter_26 (v := 0) (by decide) ?_
          refine ew_ldc2 (M := mX10_filter) dX10_filter_27 kX10_182 ?_
          refine ew_callS (M := mX10_filter) dX10_filter_30 vX10_58 (ms_in_n (l := nI 0) (g := nI 100) (by decide) (by decide) x3) rfl (Nat.le_of_ble_eq_true rfl) ⟨Nat.le_refl _, Nat.le_refl _⟩ rfl (fun H30 r30 q30 => ?_)
          obtain ⟨rfl, rfl⟩ := q30
          refine ew_if_eq (M := mX10_filter) (tgt := 66) dX10_filter_33 rfl (fun _ => ?_) (fun h => absurd (by decide) h)
          refine ew_iconst (M := mX10_filter) dX10_filter_66 (v := nI 0) (by decide) ?_
          refine ew_istore (M := mX10_filter) dX10_filter_67 (by decide) rfl ?_
          refine ew_iload (M := mX10_filter) dX10_filter_69 rfl ?_
          refine ew_if_ne (M := mX10_filter) (tgt := 77) dX10_filter_71 rfl (fun h => absurd (by decide) h) (fun _ => ?_)
          refine ew_ldc (M := mX10_filter) dX10_filter_74 kX10_110 ?_
          refine ew_iret (M := mX10_filter) dX10_filter_76 rfl (by first | rfl | decide) (Nat.le_refl _) (Nat.le_refl _) ?_
          exact ⟨by rw [ef], ex_ch.rf, by rw [ef]; exact ⟨_, _, _, _, hS⟩⟩
      · refine ex_meth [(0, .ref 86), (1, .int ac), (2, .int dn), (3, .int rk), (4, .int bo), (5, .int wt)] rfl rfl rfl (fun b => Nat.le_of_ble_eq_true rfl) ?_
        refine ew_iload_n (M := mX10_filter) dX10_filter_0 rfl ?_
        refine ew_i2l (M := mX10_filter) dX10_filter_1 ?_
        refine ew_lconst (M := mX10_filter) dX10_filter_2 (v := 0) (by decide) ?_
        refine ew_ldc2 (M := mX10_filter) dX10_filter_3 kX10_180 ?_
        refine ew_callS (M := mX10_filter) dX10_filter_6 vX10_58 (ms_in_y (l := nI 0) (g := nI 4) (by decide) (by decide) x1.1 x1.2) rfl (Nat.le_of_ble_eq_true rfl) ⟨Nat.le_refl _, Nat.le_refl _⟩ rfl (fun H6 r6 q6 => ?_)
        obtain ⟨rfl, rfl⟩ := q6
        refine ew_if_eq (M := mX10_filter) (tgt := 66) dX10_filter_9 rfl (fun h => absurd h (by decide)) (fun _ => ?_)
        refine ew_iload_n (M := mX10_filter) dX10_filter_12 rfl ?_
        refine ew_i2l (M := mX10_filter) dX10_filter_13 ?_
        refine ew_lconst (M := mX10_filter) dX10_filter_14 (v := 0) (by decide) ?_
        refine ew_ldc2 (M := mX10_filter) dX10_filter_15 kX10_180 ?_
        refine ew_callS (M := mX10_filter) dX10_filter_18 vX10_58 (ms_in_n (l := nI 0) (g := nI 4) (by decide) (by decide) x2) rfl (Nat.le_of_ble_eq_true rfl) ⟨Nat.le_refl _, Nat.le_refl _⟩ rfl (fun H18 r18 q18 => ?_)
        obtain ⟨rfl, rfl⟩ := q18
        refine ew_if_eq (M := mX10_filter) (tgt := 66) dX10_filter_21 rfl (fun _ => ?_) (fun h => absurd (by decide) h)
        refine ew_iconst (M := mX10_filter) dX10_filter_66 (v := nI 0) (by decide) ?_
        refine ew_istore (M := mX10_filter) dX10_filter_67 (by decide) rfl ?_
        refine ew_iload (M := mX10_filter) dX10_filter_69 rfl ?_
        refine ew_if_ne (M := mX10_filter) (tgt := 77) dX10_filter_71 rfl (fun h => absurd (by decide) h) (fun _ => ?_)
        refine ew_ldc (M := mX10_filter) dX10_filter_74 kX10_110 ?_
        refine ew_iret (M := mX10_filter) dX10_filter_76 rfl (by first | rfl | decide) (Nat.le_refl _) (Nat.le_refl _) ?_
        exact ⟨by rw [ef], ex_ch.rf, by rw [ef]; exact ⟨_, _, _, _, hS⟩⟩
    · refine ex_meth [(0, .ref 86), (1, .int ac), (2, .int dn), (3, .int rk), (4, .int bo), (5, .int wt)] rfl rfl rfl (fun b => Nat.le_of_ble_eq_true rfl) ?_
      refine ew_iload_n (M := mX10_filter) dX10_filter_0 rfl ?_
      refine ew_i2l (M := mX10_filter) dX10_filter_1 ?_
      refine ew_lconst (M := mX10_filter) dX10_filter_2 (v := 0) (by decide) ?_
      refine ew_ldc2 (M := mX10_filter) dX10_filter_3 kX10_180 ?_
      refine ew_callS (M := mX10_filter) dX10_filter_6 vX10_58 (ms_in_n (l := nI 0) (g := nI 4) (by decide) (by decide) x1) rfl (Nat.le_of_ble_eq_true rfl) ⟨Nat.le_refl _, Nat.le_refl _⟩ rfl (fun H6 r6 q6 => ?_)
      obtain ⟨rfl, rfl⟩ := q6
      refine ew_if_eq (M := mX10_filter) (tgt := 66) dX10_filter_9 rfl (fun _ => ?_) (fun h => absurd (by decide) h)
      refine ew_iconst (M := mX10_filter) dX10_filter_66 (v := nI 0) (by decide) ?_
      refine ew_istore (M := mX10_filter) dX10_filter_67 (by decide) rfl ?_
      refine ew_iload (M := mX10_filter) dX10_filter_69 rfl ?_
      refine ew_if_ne (M := mX10_filter) (tgt := 77) dX10_filter_71 rfl (fun h => absurd (by decide) h) (fun _ => ?_)
      refine ew_ldc (M := mX10_filter) dX10_filter_74 kX10_110 ?_
      refine ew_iret (M := mX10_filter) dX10_filter_76 rfl (by first | rfl | decide) (Nat.le_refl _) (Nat.le_refl _) ?_
      exact ⟨by rw [ef], ex_ch.rf, by rw [ef]; exact ⟨_, _, _, _, hS⟩⟩
def drF (F : Nat → Int32) (a t : Nat) : Nat → Int32 := fun i => if a ≤ i ∧ i < a + t then F (i + 5) else F i
theorem drF_0 (F : Nat → Int32) (a : Nat) : drF F a 0 = F := by
  funext i
  exact if_neg (by omega)
theorem drF_s (F : Nat → Int32) (a t : Nat) : upd (drF F a t) (a + t) (drF F a t (a + t + 5)) = drF F a (t + 1) := by
  funext i
  simp only [upd, drF]
  by_cases e : i = a + t
  · subst e
    rw [if_pos rfl, if_neg (by omega), if_pos (by omega)]
  · rw [if_neg e]
    by_cases h : a ≤ i ∧ i < a + t
    · rw [if_pos h, if_pos (by omega)]
    · rw [if_neg h, if_neg (by omega)]
theorem mfl_rem {F : Nat → Int32} {z : Nat × (Nat → FV)} (h : mfl F 0 z) {f : Nat} (hf : f < z.1) {X : Int32} (hX : X = nI (z.1 - 1)) : mfl (upd (drF F (1 + 5 * f) (25 - 5 * f)) 0 X) 0 (z.1 - 1, f_rem z.2 f) := by
  obtain ⟨h1, h2, h3⟩ := h
  refine ⟨by show z.1 - 1 ≤ 6; omega, by rw [hX]; rfl, fun k hk => ?_⟩
  have hk' : k < z.1 - 1 := hk
  have hA : ∀ c, c < 5 → upd (drF F (1 + 5 * f) (25 - 5 * f)) 0 X (0 + (1 + 5 * k) + c) = F (0 + (1 + 5 * (if k < f then k else k + 1)) + c) := fun c hc => by
    simp only [upd, drF]
    rw [if_neg (by omega)]
    by_cases e : k < f
    · rw [if_pos e, if_neg (by omega)]
    · rw [if_neg e, if_pos (by omega)]
      congr 1
      omega
  have hB : f_rem z.2 f k = z.2 (if k < f then k else k + 1) := by
    unfold f_rem
    by_cases e : k < f
    · rw [if_pos e, if_pos e]
    · rw [if_neg e, if_neg e]
  have hC : (if k < f then k else k + 1) < z.1 := by
    by_cases e : k < f
    · rw [if_pos e]; omega
    · rw [if_neg e]; omega
  obtain ⟨⟨g1, g2, g3, g4, g5⟩, g6⟩ := h3 _ hC
  show mf1 _ _ (f_rem z.2 f k) ∧ fvo (f_rem z.2 f k)
  rw [hB]
  exact ⟨⟨(hA 0 (by decide)).trans g1, (hA 1 (by decide)).trans g2, (hA 2 (by decide)).trans g3, (hA 3 (by decide)).trans g4, (hA 4 (by decide)).trans g5⟩, g6⟩
theorem ms_drop {d : Nat} {H : ex_H} {S : SS} (hS : mo_is H S) (f : Int32) : ex_Met mX10_drop (d + 2) 0 0 H [.ref 86, .int f] (fun H' r => r = some (.int (f_drop S f).1) ∧ ex_ch H H' mL ∧ mo_is H' (f_drop S f).2) := by
  obtain ⟨R, mn, C, N, hS⟩ := hS
  obtain ⟨a1, ⟨hfi, hsd, hkp⟩, ⟨W, a2, hw0, ⟨hcn, hwh⟩, hwi⟩, ⟨T, a3, htn, htx⟩, ⟨F, a4, hfl⟩, ⟨IF, IL, IS, a5, a6, a7, him⟩, ⟨BX, BY, BG, a8, a9, a10, hbn, hbk⟩, a11, a12⟩ := id hS
  have e0 : F 0 = nI S.2.2.1.2.1.1 := hfl.2.1
  have h6 := hfl.1
  by_cases hx : fin S.2.2.1.2.1.1 f
  · obtain ⟨f, hf, rfl⟩ := id hx
    have ef : f_drop S (nI f) = (nI (S.2.2.1.2.1.1 - 1), s_now S (S.2.2.1.1, (S.2.2.1.2.1.1 - 1, f_rem S.2.2.1.2.1.2 f), S.2.2.1.2.2)) := by
      unfold f_drop
      rw [cif_y hx, nI_clamp (by omega)]
    refine ex_meth [(0, .ref 86), (1, .int (nI f))] rfl rfl rfl (fun b => Nat.le_of_ble_eq_true rfl) ?_
    refine ew_aload_n (M := mX10_drop) dX10_drop_0 rfl (Or.inr (Or.inl ⟨_, rfl⟩)) ?_
    refine ew_iload_n (M := mX10_drop) dX10_drop_1 rfl ?_
    refine ew_callV (M := mX10_drop) dX10_drop_2 vX10_186 (by repeat (first | with_reducible assumption | refine ex_eq ?_ | refine ex_ne ?_ (by omega) | exact ex_lt (by with_reducible assumption) | rw [List.length_set] | assumption)) rfl (ms_isFilter_y hS hf) rfl (Nat.le_of_ble_eq_true rfl) ⟨Nat.le_refl _, Nat.le_refl _⟩ rfl (fun H2 r2 q2 => ?_)
    obtain ⟨rfl, rfl⟩ := q2
    refine ew_if_ne (M := mX10_drop) (tgt := 11) dX10_drop_5 rfl (fun _ => ?_) (fun h => absurd h (by decide))
    refine ew_iconst (M := mX10_drop) dX10_drop_11 (v := nI 1) (by decide) ?_
    refine ew_iconst (M := mX10_drop) dX10_drop_12 (v := nI 5) (by decide) ?_
    refine ew_iload_n (M := mX10_drop) dX10_drop_13 rfl ?_
    refine ew_imul (M := mX10_drop) dX10_drop_14 ?_
    refine ew_iadd (M := mX10_drop) dX10_drop_15 ?_
    rw [pk_mul, nI_add]
    refine ew_istore_n (M := mX10_drop) dX10_drop_16 (by decide) rfl ?_
    refine ew_ls [(0, .ref 86), (1, .int (nI f)), (2, .int (nI (1 + 5 * f + 0)))] ⟨rfl, rfl, rfl, trivial⟩ ?_
    refine nat_down (P := fun t => ∀ H2 : ex_H, ex_ch H H2 [89] → H2[89]? = some (ar .int 31 (drF F (1 + 5 * f) t)) → ex_W mX10_drop (d + 2) 0 0 _ H2 17 [(0, .ref 86), (1, .int (nI f)), (2, .int (nI (1 + 5 * f + t)))] [] 0 0) (25 - 5 * f) (fun t ht k => ?_) ?_ H ex_ch.rf (by rw [drF_0]; exact a4)
    · intro H2 hc2 b4
      have b1 := hc2.at a1 (by simp)
      refine ew_iload_n (M := mX10_drop) dX10_drop_17 rfl ?_
      refine ew_iconst (M := mX10_drop) dX10_drop_18 (v := nI 5) (by decide) ?_
      refine ew_iadd (M := mX10_drop) dX10_drop_19 ?_
      refine ew_bipush (M := mX10_drop) dX10_drop_20 (v := nI 31) (by decide) ?_
      refine ew_icmp_ge (M := mX10_drop) (tgt := 45) dX10_drop_22 rfl (fun h => absurd h (by rw [nI_add]; exact nI_ge (by omega) (by omega))) (fun _ => ?_)
      refine ew_aload_n (M := mX10_drop) dX10_drop_25 rfl (Or.inr (Or.inl ⟨_, rfl⟩)) ?_
      refine ew_get (M := mX10_drop) dX10_drop_26 fX10_20 (by repeat (first | with_reducible assumption | refine ex_eq ?_ | refine ex_ne ?_ (by omega) | exact ex_lt (by with_reducible assumption) | rw [List.length_set] | assumption)) (by rfl) ?_
      refine ew_iload_n (M := mX10_drop) dX10_drop_29 rfl ?_
      refine ew_aload_n (M := mX10_drop) dX10_drop_30 rfl (Or.inr (Or.inl ⟨_, rfl⟩)) ?_
      refine ew_get (M := mX10_drop) dX10_drop_31 fX10_20 (by repeat (first | with_reducible assumption | refine ex_eq ?_ | refine ex_ne ?_ (by omega) | exact ex_lt (by with_reducible assumption) | rw [List.length_set] | assumption)) (by rfl) ?_
      refine ew_iload_n (M := mX10_drop) dX10_drop_34 rfl ?_
      refine ew_iconst (M := mX10_drop) dX10_drop_35 (v := nI 5) (by decide) ?_
      refine ew_iadd (M := mX10_drop) dX10_drop_36 ?_
      refine ew_iald (M := mX10_drop) (1 + 5 * f + t + 5) dX10_drop_37 (by repeat (first | with_reducible assumption | refine ex_eq ?_ | refine ex_ne ?_ (by omega) | exact ex_lt (by with_reducible assumption) | rw [List.length_set] | assumption)) ⟨by rw [nI_add], by omega, by decide⟩ ?_
      refine ew_iast (M := mX10_drop) (1 + 5 * f + t) dX10_drop_38 (by repeat (first | with_reducible assumption | refine ex_eq ?_ | refine ex_ne ?_ (by omega) | exact ex_lt (by with_reducible assumption) | rw [List.length_set] | assumption)) ⟨rfl, by omega, by decide⟩ ?_
      refine ew_iinc (M := mX10_drop) dX10_drop_39 rfl (ex_inc (1 + 5 * f + t)) (by decide) rfl ?_
      refine ew_goto (M := mX10_drop) (tgt := 17) dX10_drop_42 rfl ?_
      refine ew_ls _ ?_ (k _ (hc2.set (by simp)) (by rw [← drF_s]; exact ex_eq (ex_lt b4)))
      exact ⟨rfl, rfl, rfl, trivial⟩
    · intro H2 hc2 b4
      have b1 := hc2.at a1 (by simp)
      have hX : drF F (1 + 5 * f) (25 - 5 * f) 0 - nI 1 = nI (S.2.2.1.2.1.1 - 1) := by
        unfold drF
        rw [if_neg (by omega), e0, nI_s1 (by omega)]
      refine ew_iload_n (M := mX10_drop) dX10_drop_17 rfl ?_
      refine ew_iconst (M := mX10_drop) dX10_drop_18 (v := nI 5) (by decide) ?_
      refine ew_iadd (M := mX10_drop) dX10_drop_19 ?_
      refine ew_bipush (M := mX10_drop) dX10_drop_20 (v := nI 31) (by decide) ?_
      refine ew_icmp_ge (M := mX10_drop) (tgt := 45) dX10_drop_22 rfl (fun _ => ?_) (fun h => absurd (by rw [nI_add]; exact nI_le (by omega) (by omega)) h)
      refine ew_aload_n (M := mX10_drop) dX10_drop_45 rfl (Or.inr (Or.inl ⟨_, rfl⟩)) ?_
      refine ew_get (M := mX10_drop) dX10_drop_46 fX10_20 (by repeat (first | with_reducible assumption | refine ex_eq ?_ | refine ex_ne ?_ (by omega) | exact ex_lt (by with_reducible assumption) | rw [List.length_set] | assumption)) (by rfl) ?_
      refine ew_iconst (M := mX10_drop) dX10_drop_49 (v := nI 0) (by decide) ?_
      refine ew_dup2 (M := mX10_drop) dX10_drop_50 rfl rfl ?_
      refine ew_iald (M := mX10_drop) 0 dX10_drop_51 (by repeat (first | with_reducible assumption | refine ex_eq ?_ | refine ex_ne ?_ (by omega) | exact ex_lt (by with_reducible assumption) | rw [List.length_set] | assumption)) ⟨rfl, by decide, by decide⟩ ?_
      refine ew_iconst (M := mX10_drop) dX10_drop_52 (v := nI 1) (by decide) ?_
      refine ew_isub (M := mX10_drop) dX10_drop_53 ?_
      rw [hX]
      refine ew_iast (M := mX10_drop) 0 dX10_drop_54 (by repeat (first | with_reducible assumption | refine ex_eq ?_ | refine ex_ne ?_ (by omega) | exact ex_lt (by with_reducible assumption) | rw [List.length_set] | assumption)) ⟨rfl, by decide, by decide⟩ ?_
      refine ew_aload_n (M := mX10_drop) dX10_drop_55 rfl (Or.inr (Or.inl ⟨_, rfl⟩)) ?_
      refine ew_get (M := mX10_drop) dX10_drop_56 fX10_20 (by repeat (first | with_reducible assumption | refine ex_eq ?_ | refine ex_ne ?_ (by omega) | exact ex_lt (by with_reducible assumption) | rw [List.length_set] | assumption)) (by rfl) ?_
      refine ew_iconst (M := mX10_drop) dX10_drop_59 (v := nI 0) (by decide) ?_
      refine ew_iald (M := mX10_drop) 0 dX10_drop_60 (by repeat (first | with_reducible assumption | refine ex_eq ?_ | refine ex_ne ?_ (by omega) | exact ex_lt (by with_reducible assumption) | rw [List.length_set] | assumption)) ⟨rfl, by decide, by decide⟩ ?_
      refine ew_iret (M := mX10_drop) dX10_drop_61 rfl (by first | rfl | decide) (Nat.le_refl _) (Nat.le_refl _) ?_
      refine ⟨by rw [ef]; rfl, (hc2.sub (mL_sub (by decide))).set (by decide), ?_⟩
      rw [ef]
      have b2 := hc2.at a2 (by simp)
      have b3 := hc2.at a3 (by simp)
      have b5 := hc2.at a5 (by simp)
      have b6 := hc2.at a6 (by simp)
      have b7 := hc2.at a7 (by simp)
      have b8 := hc2.at a8 (by simp)
      have b9 := hc2.at a9 (by simp)
      have b10 := hc2.at a10 (by simp)
      have b11 := hc2.at a11 (by simp)
      have b12 := hc2.at a12 (by simp)
      exact ⟨R, mn, C, N, (by repeat (first | with_reducible assumption | refine ex_eq ?_ | refine ex_ne ?_ (by omega) | exact ex_lt (by with_reducible assumption) | rw [List.length_set] | assumption)), ⟨hfi, hsd, hkp⟩, ⟨W, (by repeat (first | with_reducible assumption | refine ex_eq ?_ | refine ex_ne ?_ (by omega) | exact ex_lt (by with_reducible assumption) | rw [List.length_set] | assumption)), hw0, ⟨hcn, hwh⟩, hwi⟩, ⟨T, (by repeat (first | with_reducible assumption | refine ex_eq ?_ | refine ex_ne ?_ (by omega) | exact ex_lt (by with_reducible assumption) | rw [List.length_set] | assumption)), htn, htx⟩, ⟨_, ex_eq (ex_lt b4), mfl_rem (z := S.2.2.1.2.1) hfl hf rfl⟩, ⟨IF, IL, IS, (by repeat (first | with_reducible assumption | refine ex_eq ?_ | refine ex_ne ?_ (by omega) | exact ex_lt (by with_reducible assumption) | rw [List.length_set] | assumption)), (by repeat (first | with_reducible assumption | refine ex_eq ?_ | refine ex_ne ?_ (by omega) | exact ex_lt (by with_reducible assumption) | rw [List.length_set] | assumption)), (by repeat (first | with_reducible assumption | refine ex_eq ?_ | refine ex_ne ?_ (by omega) | exact ex_lt (by with_reducible assumption) | rw [List.length_set] | assumption)), him⟩, ⟨BX, BY, BG, (by repeat (first | with_reducible assumption | refine ex_eq ?_ | refine ex_ne ?_ (by omega) | exact ex_lt (by with_reducible assumption) | rw [List.length_set] | assumption)), (by repeat (first | with_reducible assumption | refine ex_eq ?_ | refine ex_ne ?_ (by omega) | exact ex_lt (by with_reducible assumption) | rw [List.length_set] | assumption)), (by repeat (first | with_reducible assumption | refine ex_eq ?_ | refine ex_ne ?_ (by omega) | exact ex_lt (by with_reducible assumption) | rw [List.length_set] | assumption)), hbn, hbk⟩, (by repeat (first | with_reducible assumption | refine ex_eq ?_ | refine ex_ne ?_ (by omega) | exact ex_lt (by with_reducible assumption) | rw [List.length_set] | assumption)), (by repeat (first | with_reducible assumption | refine ex_eq ?_ | refine ex_ne ?_ (by omega) | exact ex_lt (by with_reducible assumption) | rw [List.length_set] | assumption))⟩
  · have ef : f_drop S f = (-1000000001, S) := by
      unfold f_drop
      rw [cif_n hx]
    refine ex_meth [(0, .ref 86), (1, .int f)] rfl rfl rfl (fun b => Nat.le_of_ble_eq_true rfl) ?_
    refine ew_aload_n (M := mX10_drop) dX10_drop_0 rfl (Or.inr (Or.inl ⟨_, rfl⟩)) ?_
    refine ew_iload_n (M := mX10_drop) dX10_drop_1 rfl ?_
    refine ew_callV (M := mX10_drop) dX10_drop_2 vX10_186 (by repeat (first | with_reducible assumption | refine ex_eq ?_ | refine ex_ne ?_ (by omega) | exact ex_lt (by with_reducible assumption) | rw [List.length_set] | assumption)) rfl (ms_isFilter_n hS hx) rfl (Nat.le_of_ble_eq_true rfl) ⟨Nat.le_refl _, Nat.le_refl _⟩ rfl (fun H2 r2 q2 => ?_)
    obtain ⟨rfl, rfl⟩ := q2
    refine ew_if_ne (M := mX10_drop) (tgt := 11) dX10_drop_5 rfl (fun h => absurd (by decide) h) (fun _ => ?_)
    refine ew_ldc (M := mX10_drop) dX10_drop_8 kX10_175 ?_
    refine ew_iret (M := mX10_drop) dX10_drop_10 rfl (by first | rfl | decide) (Nat.le_refl _) (Nat.le_refl _) ?_
    exact ⟨by rw [ef], ex_ch.rf, by rw [ef]; exact ⟨_, _, _, _, hS⟩⟩
