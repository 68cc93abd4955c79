noncomputable def f_at (S : SS) (x y t : Int32) : Int32 × SS := (cif (pi_in S.2.2.1.1.1 S.2.2.1.1.2.1 x y) (cif (t = nI 0) (nI (S.2.2.1.1.2.2.1 (y.toNatClampNeg * S.2.2.1.1.1 + x.toNatClampNeg))) (cif (t = nI 1) (nI (S.2.2.1.1.2.2.2 (y.toNatClampNeg * S.2.2.1.1.1 + x.toNatClampNeg))) (-1000000002))) (-1000000001), S)
theorem lk_at {t : Int32} (h0 : ¬ t = nI 0) (h1 : ¬ t = nI 1) : Op.lookupswitch.offset [((0 : Int), (25 : Int)), (1, 38)] 59 t.toInt = 59 := by
  have n0 : ¬ t.toInt = 0 := fun e => h0 (Int32.toInt_inj.mp (by rw [e]; decide))
  have n1 : ¬ t.toInt = 1 := fun e => h1 (Int32.toInt_inj.mp (by rw [e]; decide))
  have e0 : ((0 : Int) == t.toInt) = false := by simpa using fun e : (0 : Int) = t.toInt => n0 e.symm
  have e1 : ((1 : Int) == t.toInt) = false := by simpa using fun e : (1 : Int) = t.toInt => n1 e.symm
  simp [Op.lookupswitch.offset, e0, e1, List.find?, n0, n1, Ne.symm n0, Ne.symm n1]
theorem cs_at {d : Nat} {H : ex_H} {S : SS} (hS : cl_is H S) (x y t : Int32) : ex_Met mX9_at (d + 2) 0 0 H [.ref 0, .int x, .int y, .int t] (fun H' r => r = some (.int (f_at S x y t).1) ∧ ex_ch H H' cL ∧ cl_is H' (f_at S x y t).2) := by
  obtain ⟨a1, ⟨pl, a2⟩, a3, ⟨fa, a4, a5, a6⟩, a7, a8, ⟨fk, a9, a10⟩, a11, a12, ⟨cw, a13⟩, a14, a15⟩ := id hS
  obtain ⟨b1, b2, b3, b4, b5⟩ := id a3
  obtain ⟨⟨bz, bgm⟩, bgs, bms, ⟨bp1, bp2, bp3⟩, bct⟩ := id b4
  obtain ⟨bz1, bz2, bz3, bz4⟩ := id bz

  refine ex_meth [(0, .ref 0), (1, .int x), (2, .int y), (3, .int t)] rfl rfl rfl (fun b => Nat.le_of_ble_eq_true rfl) ?_
  unfold f_at
  by_cases hin : pi_in S.2.2.1.1.1 S.2.2.1.1.2.1 x y
  · rw [cif_y hin]
    obtain ⟨i, j, rfl, hi, rfl, hj⟩ := id hin
    rw [nI_clamp (show i < 2 ^ 31 by omega), nI_clamp (show j < 2 ^ 31 by omega)]
    have hgm := bgm _ (pi_lt hi hj)
    by_cases q0 : t = nI 0
    · rw [cif_y q0]
      subst q0
      refine ew_aload_n (M := mX9_at) dX9_at_0 rfl (Or.inr (Or.inl ⟨_, rfl⟩)) ?_
      refine ew_get (M := mX9_at) dX9_at_1 fX9_19 (by repeat (first | with_reducible assumption | refine ex_eq ?_ | refine ex_ne ?_ (by omega) | exact ex_lt (by with_reducible assumption) | rw [List.length_set] | assumption)) (by rfl) ?_
      refine ew_get (M := mX9_at) dX9_at_4 fX9_86 (by repeat (first | with_reducible assumption | refine ex_eq ?_ | refine ex_ne ?_ (by omega) | exact ex_lt (by with_reducible assumption) | rw [List.length_set] | assumption)) (by rfl) ?_
      refine ew_iload_n (M := mX9_at) dX9_at_7 rfl ?_
      refine ew_iload_n (M := mX9_at) dX9_at_8 rfl ?_
      refine ew_callV (M := mX9_at) dX9_at_9 vX9_137 (by repeat (first | with_reducible assumption | refine ex_eq ?_ | refine ex_ne ?_ (by omega) | exact ex_lt (by with_reducible assumption) | rw [List.length_set] | assumption)) rfl (sp_has_y b4 hi hj) rfl (Nat.le_of_ble_eq_true rfl) ⟨Nat.le_refl _, Nat.le_refl _⟩ rfl (fun H9 r9 q9 => ?_)
      obtain ⟨rfl, rfl⟩ := q9
      refine ew_if_ne (M := mX9_at) (tgt := 18) dX9_at_12 rfl (fun _ => ?_) (fun h => absurd h (by decide))
      refine ew_iload_n (M := mX9_at) dX9_at_18 rfl ?_
      refine ew_lookup (M := mX9_at) (tgt := 44) (off := 25) dX9_at_19 (by decide) (by decide) rfl ?_
      refine ew_aload_n (M := mX9_at) dX9_at_44 rfl (Or.inr (Or.inl ⟨_, rfl⟩)) ?_
      refine ew_get (M := mX9_at) dX9_at_45 fX9_19 (by repeat (first | with_reducible assumption | refine ex_eq ?_ | refine ex_ne ?_ (by omega) | exact ex_lt (by with_reducible assumption) | rw [List.length_set] | assumption)) (by rfl) ?_
      refine ew_get (M := mX9_at) dX9_at_48 fX9_86 (by repeat (first | with_reducible assumption | refine ex_eq ?_ | refine ex_ne ?_ (by omega) | exact ex_lt (by with_reducible assumption) | rw [List.length_set] | assumption)) (by rfl) ?_
      refine ew_iload_n (M := mX9_at) dX9_at_51 rfl ?_
      refine ew_iload_n (M := mX9_at) dX9_at_52 rfl ?_
      refine ew_callV (M := mX9_at) dX9_at_53 vX9_142 (by repeat (first | with_reducible assumption | refine ex_eq ?_ | refine ex_ne ?_ (by omega) | exact ex_lt (by with_reducible assumption) | rw [List.length_set] | assumption)) rfl (sp_greyOf b4 hi hj) rfl (Nat.le_of_ble_eq_true rfl) ⟨Nat.le_refl _, Nat.le_refl _⟩ rfl (fun H53 r53 q53 => ?_)
      obtain ⟨rfl, rfl⟩ := q53
      refine ew_iret (M := mX9_at) dX9_at_56 rfl (by first | rfl | decide) (Nat.le_refl _) (Nat.le_refl _) ?_
      exact ⟨rfl, ex_ch.rf, hS⟩
    · rw [cif_n q0]
      by_cases q1 : t = nI 1
      · rw [cif_y q1]
        subst q1
        refine ew_aload_n (M := mX9_at) dX9_at_0 rfl (Or.inr (Or.inl ⟨_, rfl⟩)) ?_
        refine ew_get (M := mX9_at) dX9_at_1 fX9_19 (by repeat (first | with_reducible assumption | refine ex_eq ?_ | refine ex_ne ?_ (by omega) | exact ex_lt (by with_reducible assumption) | rw [List.length_set] | assumption)) (by rfl) ?_
        refine ew_get (M := mX9_at) dX9_at_4 fX9_86 (by repeat (first | with_reducible assumption | refine ex_eq ?_ | refine ex_ne ?_ (by omega) | exact ex_lt (by with_reducible assumption) | rw [List.length_set] | assumption)) (by rfl) ?_
        refine ew_iload_n (M := mX9_at) dX9_at_7 rfl ?_
        refine ew_iload_n (M := mX9_at) dX9_at_8 rfl ?_
        refine ew_callV (M := mX9_at) dX9_at_9 vX9_137 (by repeat (first | with_reducible assumption | refine ex_eq ?_ | refine ex_ne ?_ (by omega) | exact ex_lt (by with_reducible assumption) | rw [List.length_set] | assumption)) rfl (sp_has_y b4 hi hj) rfl (Nat.le_of_ble_eq_true rfl) ⟨Nat.le_refl _, Nat.le_refl _⟩ rfl (fun H9 r9 q9 => ?_)
        obtain ⟨rfl, rfl⟩ := q9
        refine ew_if_ne (M := mX9_at) (tgt := 18) dX9_at_12 rfl (fun _ => ?_) (fun h => absurd h (by decide))
        refine ew_iload_n (M := mX9_at) dX9_at_18 rfl ?_
        refine ew_lookup (M := mX9_at) (tgt := 57) (off := 38) dX9_at_19 (by decide) (by decide) rfl ?_
        refine ew_aload_n (M := mX9_at) dX9_at_57 rfl (Or.inr (Or.inl ⟨_, rfl⟩)) ?_
        refine ew_get (M := mX9_at) dX9_at_58 fX9_19 (by repeat (first | with_reducible assumption | refine ex_eq ?_ | refine ex_ne ?_ (by omega) | exact ex_lt (by with_reducible assumption) | rw [List.length_set] | assumption)) (by rfl) ?_
        refine ew_get (M := mX9_at) dX9_at_61 fX9_86 (by repeat (first | with_reducible assumption | refine ex_eq ?_ | refine ex_ne ?_ (by omega) | exact ex_lt (by with_reducible assumption) | rw [List.length_set] | assumption)) (by rfl) ?_
        refine ew_iload_n (M := mX9_at) dX9_at_64 rfl ?_
        refine ew_iload_n (M := mX9_at) dX9_at_65 rfl ?_
        refine ew_callV (M := mX9_at) dX9_at_66 vX9_146 (by repeat (first | with_reducible assumption | refine ex_eq ?_ | refine ex_ne ?_ (by omega) | exact ex_lt (by with_reducible assumption) | rw [List.length_set] | assumption)) rfl (sp_isMasked b4 hi hj) rfl (Nat.le_of_ble_eq_true rfl) ⟨Nat.le_refl _, Nat.le_refl _⟩ rfl (fun H66 r66 q66 => ?_)
        obtain ⟨rfl, rfl⟩ := q66
        refine ew_if_eq (M := mX9_at) (tgt := 76) dX9_at_69 rfl (fun c69 => ?_) (fun c69 => ?_)
        · rw [nI_z (by omega)] at c69
          rw [c69]
          refine ew_iconst (M := mX9_at) dX9_at_76 (v := nI 0) (by decide) ?_
          refine ew_iret (M := mX9_at) dX9_at_77 rfl (by first | rfl | decide) (Nat.le_refl _) (Nat.le_refl _) ?_
          exact ⟨rfl, ex_ch.rf, hS⟩
        · rw [nI_z (by omega)] at c69
          rw [show S.2.2.1.1.2.2.2 (j * S.2.2.1.1.1 + i) = 1 by omega]
          refine ew_iconst (M := mX9_at) dX9_at_72 (v := nI 1) (by decide) ?_
          refine ew_goto (M := mX9_at) (tgt := 77) dX9_at_73 rfl ?_
          refine ew_iret (M := mX9_at) dX9_at_77 rfl (by first | rfl | decide) (Nat.le_refl _) (Nat.le_refl _) ?_
          exact ⟨rfl, ex_ch.rf, hS⟩
      · rw [cif_n q1]
        refine ew_aload_n (M := mX9_at) dX9_at_0 rfl (Or.inr (Or.inl ⟨_, rfl⟩)) ?_
        refine ew_get (M := mX9_at) dX9_at_1 fX9_19 (by repeat (first | with_reducible assumption | refine ex_eq ?_ | refine ex_ne ?_ (by omega) | exact ex_lt (by with_reducible assumption) | rw [List.length_set] | assumption)) (by rfl) ?_
        refine ew_get (M := mX9_at) dX9_at_4 fX9_86 (by repeat (first | with_reducible assumption | refine ex_eq ?_ | refine ex_ne ?_ (by omega) | exact ex_lt (by with_reducible assumption) | rw [List.length_set] | assumption)) (by rfl) ?_
        refine ew_iload_n (M := mX9_at) dX9_at_7 rfl ?_
        refine ew_iload_n (M := mX9_at) dX9_at_8 rfl ?_
        refine ew_callV (M := mX9_at) dX9_at_9 vX9_137 (by repeat (first | with_reducible assumption | refine ex_eq ?_ | refine ex_ne ?_ (by omega) | exact ex_lt (by with_reducible assumption) | rw [List.length_set] | assumption)) rfl (sp_has_y b4 hi hj) rfl (Nat.le_of_ble_eq_true rfl) ⟨Nat.le_refl _, Nat.le_refl _⟩ rfl (fun H9 r9 q9 => ?_)
        obtain ⟨rfl, rfl⟩ := q9
        refine ew_if_ne (M := mX9_at) (tgt := 18) dX9_at_12 rfl (fun _ => ?_) (fun h => absurd h (by decide))
        refine ew_iload_n (M := mX9_at) dX9_at_18 rfl ?_
        refine ew_lookup (M := mX9_at) (tgt := 78) (off := 59) dX9_at_19 (by decide) (lk_at q0 q1) rfl ?_
        refine ew_ldc (M := mX9_at) dX9_at_78 kX9_70 ?_
        refine ew_iret (M := mX9_at) dX9_at_80 rfl (by first | rfl | decide) (Nat.le_refl _) (Nat.le_refl _) ?_
        exact ⟨rfl, ex_ch.rf, hS⟩
  · rw [cif_n hin]
    refine ew_aload_n (M := mX9_at) dX9_at_0 rfl (Or.inr (Or.inl ⟨_, rfl⟩)) ?_
    refine ew_get (M := mX9_at) dX9_at_1 fX9_19 (by repeat (first | with_reducible assumption | refine ex_eq ?_ | refine ex_ne ?_ (by omega) | exact ex_lt (by with_reducible assumption) | rw [List.length_set] | assumption)) (by rfl) ?_
    refine ew_get (M := mX9_at) dX9_at_4 fX9_86 (by repeat (first | with_reducible assumption | refine ex_eq ?_ | refine ex_ne ?_ (by omega) | exact ex_lt (by with_reducible assumption) | rw [List.length_set] | assumption)) (by rfl) ?_
    refine ew_iload_n (M := mX9_at) dX9_at_7 rfl ?_
    refine ew_iload_n (M := mX9_at) dX9_at_8 rfl ?_
    refine ew_callV (M := mX9_at) dX9_at_9 vX9_137 (by repeat (first | with_reducible assumption | refine ex_eq ?_ | refine ex_ne ?_ (by omega) | exact ex_lt (by with_reducible assumption) | rw [List.length_set] | assumption)) rfl (sp_has_n b4 hin) rfl (Nat.le_of_ble_eq_true rfl) ⟨Nat.le_refl _, Nat.le_refl _⟩ rfl (fun H9 r9 q9 => ?_)
    obtain ⟨rfl, rfl⟩ := q9
    refine ew_if_ne (M := mX9_at) (tgt := 18) dX9_at_12 rfl (fun h => absurd rfl h) (fun _ => ?_)
    refine ew_ldc (M := mX9_at) dX9_at_15 kX9_141 ?_
    refine ew_iret (M := mX9_at) dX9_at_17 rfl (by first | rfl | decide) (Nat.le_refl _) (Nat.le_refl _) ?_
    exact ⟨rfl, ex_ch.rf, hS⟩
noncomputable def f_tally (S : SS) (x y u v g : Int32) : Int32 × SS := (cif (pi_in S.2.2.1.1.1 S.2.2.1.1.2.1 x y ∧ pi_in S.2.2.1.1.1 S.2.2.1.1.2.1 u v) (cif (u < x ∨ v < y ∨ ¬ (-1 ≤ g ∧ g ≤ nI 256)) (-1000000002) (nI (pm_tally S.2.2.1.1.1 S.2.2.1.1.2.2.1 S.2.2.1.1.2.2.2 x.toNatClampNeg y.toNatClampNeg u.toNatClampNeg v.toNatClampNeg g))) (-1000000001), S)
theorem cs_tally {d : Nat} {H : ex_H} {S : SS} (hS : cl_is H S) (x y u v g : Int32) : ex_Met mX9_tally (d + 3) 0 0 H [.ref 0, .int x, .int y, .int u, .int v, .int g] (fun H' r => r = some (.int (f_tally S x y u v g).1) ∧ ex_ch H H' cL ∧ cl_is H' (f_tally S x y u v g).2) := by
  obtain ⟨a1, ⟨pl, a2⟩, a3, ⟨fa, a4, a5, a6⟩, a7, a8, ⟨fk, a9, a10⟩, a11, a12, ⟨cw, a13⟩, a14, a15⟩ := id hS
  obtain ⟨b1, b2, b3, b4, b5⟩ := id a3
  obtain ⟨⟨bz, bgm⟩, bgs, bms, ⟨bp1, bp2, bp3⟩, bct⟩ := id b4
  obtain ⟨bz1, bz2, bz3, bz4⟩ := id bz

  refine ex_meth [(0, .ref 0), (1, .int x), (2, .int y), (3, .int u), (4, .int v), (5, .int g)] rfl rfl rfl (fun b => Nat.le_of_ble_eq_true rfl) ?_
  unfold f_tally
  by_cases hin : pi_in S.2.2.1.1.1 S.2.2.1.1.2.1 x y
  · obtain ⟨i, j, rfl, hi, rfl, hj⟩ := id hin
    by_cases hin2 : pi_in S.2.2.1.1.1 S.2.2.1.1.2.1 u v
    · rw [cif_y ⟨hin, hin2⟩]
      obtain ⟨i2, j2, rfl, hi2, rfl, hj2⟩ := id hin2
      by_cases hg : -1 ≤ g ∧ g ≤ nI 256
      · refine ew_aload_n (M := mX9_tally) dX9_tally_0 rfl (Or.inr (Or.inl ⟨_, rfl⟩)) ?_
        refine ew_get (M := mX9_tally) dX9_tally_1 fX9_19 (by repeat (first | with_reducible assumption | refine ex_eq ?_ | refine ex_ne ?_ (by omega) | exact ex_lt (by with_reducible assumption) | rw [List.length_set] | assumption)) (by rfl) ?_
        refine ew_get (M := mX9_tally) dX9_tally_4 fX9_86 (by repeat (first | with_reducible assumption | refine ex_eq ?_ | refine ex_ne ?_ (by omega) | exact ex_lt (by with_reducible assumption) | rw [List.length_set] | assumption)) (by rfl) ?_
        refine ew_iload_n (M := mX9_tally) dX9_tally_7 rfl ?_
        refine ew_iload_n (M := mX9_tally) dX9_tally_8 rfl ?_
        refine ew_callV (M := mX9_tally) dX9_tally_9 vX9_137 (by repeat (first | with_reducible assumption | refine ex_eq ?_ | refine ex_ne ?_ (by omega) | exact ex_lt (by with_reducible assumption) | rw [List.length_set] | assumption)) rfl (sp_has_y b4 hi hj) rfl (Nat.le_of_ble_eq_true rfl) ⟨Nat.le_refl _, Nat.le_refl _⟩ rfl (fun H9 r9 q9 => ?_)
        obtain ⟨rfl, rfl⟩ := q9
        refine ew_if_eq (M := mX9_tally) (tgt := 31) dX9_tally_12 rfl (fun h => absurd h (by decide)) (fun _ => ?_)
        refine ew_aload_n (M := mX9_tally) dX9_tally_15 rfl (Or.inr (Or.inl ⟨_, rfl⟩)) ?_
        refine ew_get (M := mX9_tally) dX9_tally_16 fX9_19 (by repeat (first | with_reducible assumption | refine ex_eq ?_ | refine ex_ne ?_ (by omega) | exact ex_lt (by with_reducible assumption) | rw [List.length_set] | assumption)) (by rfl) ?_
        refine ew_get (M := mX9_tally) dX9_tally_19 fX9_86 (by repeat (first | with_reducible assumption | refine ex_eq ?_ | refine ex_ne ?_ (by omega) | exact ex_lt (by with_reducible assumption) | rw [List.length_set] | assumption)) (by rfl) ?_
        refine ew_iload_n (M := mX9_tally) dX9_tally_22 rfl ?_
        refine ew_iload (M := mX9_tally) dX9_tally_23 rfl ?_
        refine ew_callV (M := mX9_tally) dX9_tally_25 vX9_137 (by repeat (first | with_reducible assumption | refine ex_eq ?_ | refine ex_ne ?_ (by omega) | exact ex_lt (by with_reducible assumption) | rw [List.length_set] | assumption)) rfl (sp_has_y b4 hi2 hj2) rfl (Nat.le_of_ble_eq_true rfl) ⟨Nat.le_refl _, Nat.le_refl _⟩ rfl (fun H25 r25 q25 => ?_)
        obtain ⟨rfl, rfl⟩ := q25
        refine ew_if_ne (M := mX9_tally) (tgt := 34) dX9_tally_28 rfl (fun _ => ?_) (fun h => absurd h (by decide))
        refine ew_iload_n (M := mX9_tally) dX9_tally_34 rfl ?_
        refine ew_iload_n (M := mX9_tally) dX9_tally_35 rfl ?_
        refine ew_icmp_lt (M := mX9_tally) (tgt := 57) dX9_tally_36 rfl (fun c36 => ?_) (fun c36 => ?_)
        · rw [cif_y (Or.inl c36)]
          refine ew_ldc (M := mX9_tally) dX9_tally_57 kX9_70 ?_
          refine ew_iret (M := mX9_tally) dX9_tally_59 rfl (by first | rfl | decide) (Nat.le_refl _) (Nat.le_refl _) ?_
          exact ⟨rfl, ex_ch.rf, hS⟩
        · refine ew_iload (M := mX9_tally) dX9_tally_39 rfl ?_
          refine ew_iload_n (M := mX9_tally) dX9_tally_41 rfl ?_
          refine ew_icmp_lt (M := mX9_tally) (tgt := 57) dX9_tally_42 rfl (fun c42 => ?_) (fun c42 => ?_)
          · rw [cif_y (Or.inr (Or.inl c42))]
            refine ew_ldc (M := mX9_tally) dX9_tally_57 kX9_70 ?_
            refine ew_iret (M := mX9_tally) dX9_tally_59 rfl (by first | rfl | decide) (Nat.le_refl _) (Nat.le_refl _) ?_
            exact ⟨rfl, ex_ch.rf, hS⟩
          · rw [cif_n (fun q => q.elim c36 (fun q => q.elim c42 (fun q => q hg))), nI_clamp (show i < 2 ^ 31 by omega), nI_clamp (show j < 2 ^ 31 by omega), nI_clamp (show i2 < 2 ^ 31 by omega), nI_clamp (show j2 < 2 ^ 31 by omega)]
            refine ew_iload (M := mX9_tally) dX9_tally_45 rfl ?_
            refine ew_iconst (M := mX9_tally) dX9_tally_47 (v := (-1)) (by decide) ?_
            refine ew_sipush (M := mX9_tally) dX9_tally_48 (v := nI 256) (by decide) ?_
            refine ew_callS (M := mX9_tally) dX9_tally_51 vX9_66 (sp_within_y hg.1 hg.2) rfl (Nat.le_of_ble_eq_true rfl) ⟨Nat.le_refl _, Nat.le_refl _⟩ rfl (fun H51 r51 q51 => ?_)
            obtain ⟨rfl, rfl⟩ := q51
            refine ew_if_ne (M := mX9_tally) (tgt := 60) dX9_tally_54 rfl (fun _ => ?_) (fun h => absurd h (by decide))
            refine ew_aload_n (M := mX9_tally) dX9_tally_60 rfl (Or.inr (Or.inl ⟨_, rfl⟩)) ?_
            refine ew_get (M := mX9_tally) dX9_tally_61 fX9_19 (by repeat (first | with_reducible assumption | refine ex_eq ?_ | refine ex_ne ?_ (by omega) | exact ex_lt (by with_reducible assumption) | rw [List.length_set] | assumption)) (by rfl) ?_
            refine ew_get (M := mX9_tally) dX9_tally_64 fX9_86 (by repeat (first | with_reducible assumption | refine ex_eq ?_ | refine ex_ne ?_ (by omega) | exact ex_lt (by with_reducible assumption) | rw [List.length_set] | assumption)) (by rfl) ?_
            refine ew_iload_n (M := mX9_tally) dX9_tally_67 rfl ?_
            refine ew_iload_n (M := mX9_tally) dX9_tally_68 rfl ?_
            refine ew_iload_n (M := mX9_tally) dX9_tally_69 rfl ?_
            refine ew_iload (M := mX9_tally) dX9_tally_70 rfl ?_
            refine ew_iload (M := mX9_tally) dX9_tally_72 rfl ?_
            refine ew_callV (M := mX9_tally) dX9_tally_74 vX9_149 (by repeat (first | with_reducible assumption | refine ex_eq ?_ | refine ex_ne ?_ (by omega) | exact ex_lt (by with_reducible assumption) | rw [List.length_set] | assumption)) rfl (sp_dotsUpTo b4 (by rw [nI_ltI (by omega) (by omega)] at c36; omega) hi2 (by rw [nI_ltI (by omega) (by omega)] at c42; omega) hj2) rfl (Nat.le_of_ble_eq_true rfl) ⟨Nat.le_refl _, Nat.le_refl _⟩ rfl (fun H74 r74 q74 => ?_)
            obtain ⟨rfl, rfl⟩ := q74
            refine ew_iret (M := mX9_tally) dX9_tally_77 rfl (by first | rfl | decide) (Nat.le_refl _) (Nat.le_refl _) ?_
            exact ⟨rfl, ex_ch.rf, hS⟩
      · rw [cif_y (Or.inr (Or.inr hg))]
        refine ew_aload_n (M := mX9_tally) dX9_tally_0 rfl (Or.inr (Or.inl ⟨_, rfl⟩)) ?_
        refine ew_get (M := mX9_tally) dX9_tally_1 fX9_19 (by repeat (first | with_reducible assumption | refine ex_eq ?_ | refine ex_ne ?_ (by omega) | exact ex_lt (by with_reducible assumption) | rw [List.length_set] | assumption)) (by rfl) ?_
        refine ew_get (M := mX9_tally) dX9_tally_4 fX9_86 (by repeat (first | with_reducible assumption | refine ex_eq ?_ | refine ex_ne ?_ (by omega) | exact ex_lt (by with_reducible assumption) | rw [List.length_set] | assumption)) (by rfl) ?_
        refine ew_iload_n (M := mX9_tally) dX9_tally_7 rfl ?_
        refine ew_iload_n (M := mX9_tally) dX9_tally_8 rfl ?_
        refine ew_callV (M := mX9_tally) dX9_tally_9 vX9_137 (by repeat (first | with_reducible assumption | refine ex_eq ?_ | refine ex_ne ?_ (by omega) | exact ex_lt (by with_reducible assumption) | rw [List.length_set] | assumption)) rfl (sp_has_y b4 hi hj) rfl (Nat.le_of_ble_eq_true rfl) ⟨Nat.le_refl _, Nat.le_refl _⟩ rfl (fun H9 r9 q9 => ?_)
        obtain ⟨rfl, rfl⟩ := q9
        refine ew_if_eq (M := mX9_tally) (tgt := 31) dX9_tally_12 rfl (fun h => absurd h (by decide)) (fun _ => ?_)
        refine ew_aload_n (M := mX9_tally) dX9_tally_15 rfl (Or.inr (Or.inl ⟨_, rfl⟩)) ?_
        refine ew_get (M := mX9_tally) dX9_tally_16 fX9_19 (by repeat (first | with_reducible assumption | refine ex_eq ?_ | refine ex_ne ?_ (by omega) | exact ex_lt (by with_reducible assumption) | rw [List.length_set] | assumption)) (by rfl) ?_
        refine ew_get (M := mX9_tally) dX9_tally_19 fX9_86 (by repeat (first | with_reducible assumption | refine ex_eq ?_ | refine ex_ne ?_ (by omega) | exact ex_lt (by with_reducible assumption) | rw [List.length_set] | assumption)) (by rfl) ?_
        refine ew_iload_n (M := mX9_tally) dX9_tally_22 rfl ?_
        refine ew_iload (M := mX9_tally) dX9_tally_23 rfl ?_
        refine ew_callV (M := mX9_tally) dX9_tally_25 vX9_137 (by repeat (first | with_reducible assumption | refine ex_eq ?_ | refine ex_ne ?_ (by omega) | exact ex_lt (by with_reducible assumption) | rw [List.length_set] | assumption)) rfl (sp_has_y b4 hi2 hj2) rfl (Nat.le_of_ble_eq_true rfl) ⟨Nat.le_refl _, Nat.le_refl _⟩ rfl (fun H25 r25 q25 => ?_)
        obtain ⟨rfl, rfl⟩ := q25
        refine ew_if_ne (M := mX9_tally) (tgt := 34) dX9_tally_28 rfl (fun _ => ?_) (fun h => absurd h (by decide))
        refine ew_iload_n (M := mX9_tally) dX9_tally_34 rfl ?_
        refine ew_iload_n (M := mX9_tally) dX9_tally_35 rfl ?_
        refine ew_icmp_lt (M := mX9_tally) (tgt := 57) dX9_tally_36 rfl (fun c36 => ?_) (fun c36 => ?_)
        · refine ew_ldc (M := mX9_tally) dX9_tally_57 kX9_70 ?_
          refine ew_iret (M := mX9_tally) dX9_tally_59 rfl (by first | rfl | decide) (Nat.le_refl _) (Nat.le_refl _) ?_
          exact ⟨rfl, ex_ch.rf, hS⟩
        · refine ew_iload (M := mX9_tally) dX9_tally_39 rfl ?_
          refine ew_iload_n (M := mX9_tally) dX9_tally_41 rfl ?_
          refine ew_icmp_lt (M := mX9_tally) (tgt := 57) dX9_tally_42 rfl (fun c42 => ?_) (fun c42 => ?_)
          · refine ew_ldc (M := mX9_tally) dX9_tally_57 kX9_70 ?_
            refine ew_iret (M := mX9_tally) dX9_tally_59 rfl (by first | rfl | decide) (Nat.le_refl _) (Nat.le_refl _) ?_
            exact ⟨rfl, ex_ch.rf, hS⟩
          · refine ew_iload (M := mX9_tally) dX9_tally_45 rfl ?_
            refine ew_iconst (M := mX9_tally) dX9_tally_47 (v := (-1)) (by decide) ?_
            refine ew_sipush (M := mX9_tally) dX9_tally_48 (v := nI 256) (by decide) ?_
            refine ew_callS (M := mX9_tally) dX9_tally_51 vX9_66 (sp_within_n hg) rfl (Nat.le_of_ble_eq_true rfl) ⟨Nat.le_refl _, Nat.le_refl _⟩ rfl (fun H51 r51 q51 => ?_)
            obtain ⟨rfl, rfl⟩ := q51
            refine ew_if_ne (M := mX9_tally) (tgt := 60) dX9_tally_54 rfl (fun h => absurd rfl h) (fun _ => ?_)
            refine ew_ldc (M := mX9_tally) dX9_tally_57 kX9_70 ?_
            refine ew_iret (M := mX9_tally) dX9_tally_59 rfl (by first | rfl | decide) (Nat.le_refl _) (Nat.le_refl _) ?_
            exact ⟨rfl, ex_ch.rf, hS⟩
    · rw [cif_n (fun q => hin2 q.2)]
      refine ew_aload_n (M := mX9_tally) dX9_tally_0 rfl (Or.inr (Or.inl ⟨_, rfl⟩)) ?_
      refine ew_get (M := mX9_tally) dX9_tally_1 fX9_19 (by repeat (first | with_reducible assumption | refine ex_eq ?_ | refine ex_ne ?_ (by omega) | exact ex_lt (by with_reducible assumption) | rw [List.length_set] | assumption)) (by rfl) ?_
      refine ew_get (M := mX9_tally) dX9_tally_4 fX9_86 (by repeat (first | with_reducible assumption | refine ex_eq ?_ | refine ex_ne ?_ (by omega) | exact ex_lt (by with_reducible assumption) | rw [List.length_set] | assumption)) (by rfl) ?_
      refine ew_iload_n (M := mX9_tally) dX9_tally_7 rfl ?_
      refine ew_iload_n (M := mX9_tally) dX9_tally_8 rfl ?_
      refine ew_callV (M := mX9_tally) dX9_tally_9 vX9_137 (by repeat (first | with_reducible assumption | refine ex_eq ?_ | refine ex_ne ?_ (by omega) | exact ex_lt (by with_reducible assumption) | rw [List.length_set] | assumption)) rfl (sp_has_y b4 hi hj) rfl (Nat.le_of_ble_eq_true rfl) ⟨Nat.le_refl _, Nat.le_refl _⟩ rfl (fun H9 r9 q9 => ?_)
      obtain ⟨rfl, rfl⟩ := q9
      refine ew_if_eq (M := mX9_tally) (tgt := 31) dX9_tally_12 rfl (fun h => absurd h (by decide)) (fun _ => ?_)
      refine ew_aload_n (M := mX9_tally) dX9_tally_15 rfl (Or.inr (Or.inl ⟨_, rfl⟩)) ?_
      refine ew_get (M := mX9_tally) dX9_tally_16 fX9_19 (by repeat (first | with_reducible assumption | refine ex_eq ?_ | refine ex_ne ?_ (by omega) | exact ex_lt (by with_reducible assumption) | rw [List.length_set] | assumption)) (by rfl) ?_
      refine ew_get (M := mX9_tally) dX9_tally_19 fX9_86 (by repeat (first | with_reducible assumption | refine ex_eq ?_ | refine ex_ne ?_ (by omega) | exact ex_lt (by with_reducible assumption) | rw [List.length_set] | assumption)) (by rfl) ?_
      refine ew_iload_n (M := mX9_tally) dX9_tally_22 rfl ?_
      refine ew_iload (M := mX9_tally) dX9_tally_23 rfl ?_
      refine ew_callV (M := mX9_tally) dX9_tally_25 vX9_137 (by repeat (first | with_reducible assumption | refine ex_eq ?_ | refine ex_ne ?_ (by omega) | exact ex_lt (by with_reducible assumption) | rw [List.length_set] | assumption)) rfl (sp_has_n b4 hin2) rfl (Nat.le_of_ble_eq_true rfl) ⟨Nat.le_refl _, Nat.le_refl _⟩ rfl (fun H25 r25 q25 => ?_)
      obtain ⟨rfl, rfl⟩ := q25
      refine ew_if_ne (M := mX9_tally) (tgt := 34) dX9_tally_28 rfl (fun h => absurd rfl h) (fun _ => ?_)
      refine ew_ldc (M := mX9_tally) dX9_tally_31 kX9_141 ?_
      refine ew_iret (M := mX9_tally) dX9_tally_33 rfl (by first | rfl | decide) (Nat.le_refl _) (Nat.le_refl _) ?_
      exact ⟨rfl, ex_ch.rf, hS⟩
  · rw [cif_n (fun q => hin q.1)]
    refine ew_aload_n (M := mX9_tally) dX9_tally_0 rfl (Or.inr (Or.inl ⟨_, rfl⟩)) ?_
    refine ew_get (M := mX9_tally) dX9_tally_1 fX9_19 (by repeat (first | with_reducible assumption | refine ex_eq ?_ | refine ex_ne ?_ (by omega) | exact ex_lt (by with_reducible assumption) | rw [List.length_set] | assumption)) (by rfl) ?_
    refine ew_get (M := mX9_tally) dX9_tally_4 fX9_86 (by repeat (first | with_reducible assumption | refine ex_eq ?_ | refine ex_ne ?_ (by omega) | exact ex_lt (by with_reducible assumption) | rw [List.length_set] | assumption)) (by rfl) ?_
    refine ew_iload_n (M := mX9_tally) dX9_tally_7 rfl ?_
    refine ew_iload_n (M := mX9_tally) dX9_tally_8 rfl ?_
    refine ew_callV (M := mX9_tally) dX9_tally_9 vX9_137 (by repeat (first | with_reducible assumption | refine ex_eq ?_ | refine ex_ne ?_ (by omega) | exact ex_lt (by with_reducible assumption) | rw [List.length_set] | assumption)) rfl (sp_has_n b4 hin) rfl (Nat.le_of_ble_eq_true rfl) ⟨Nat.le_refl _, Nat.le_refl _⟩ rfl (fun H9 r9 q9 => ?_)
    obtain ⟨rfl, rfl⟩ := q9
    refine ew_if_eq (M := mX9_tally) (tgt := 31) dX9_tally_12 rfl (fun _ => ?_) (fun h => absurd rfl h)
    refine ew_ldc (M := mX9_tally) dX9_tally_31 kX9_141 ?_
    refine ew_iret (M := mX9_tally) dX9_tally_33 rfl (by first | rfl | decide) (Nat.le_refl _) (Nat.le_refl _) ?_
    exact ⟨rfl, ex_ch.rf, hS⟩
noncomputable def f_fill (S : SS) (g : Int32) : Int32 × SS := cif (nI 0 ≤ g ∧ g ≤ nI 255) (nI S.2.2.1.2.2.1, s_now S (S.2.2.1.1, S.2.2.1.2.1, g.toNatClampNeg, S.2.2.1.2.2.2)) (-1000000002, S)
theorem cs_fill {d : Nat} {H : ex_H} {S : SS} (hS : cl_is H S) (g : Int32) : ex_Met mX9_fill (d + 1) 0 0 H [.ref 0, .int g] (fun H' r => r = some (.int (f_fill S g).1) ∧ ex_ch H H' cL ∧ cl_is H' (f_fill S g).2) := by
  obtain ⟨a1, ⟨pl, a2⟩, a3, ⟨fa, a4, a5, a6⟩, a7, a8, ⟨fk, a9, a10⟩, a11, a12, ⟨cw, a13⟩, a14, a15⟩ := id hS
  obtain ⟨b1, b2, b3, b4, b5⟩ := id a3
  obtain ⟨⟨bz, bgm⟩, bgs, bms, ⟨bp1, bp2, bp3⟩, bct⟩ := id b4
  obtain ⟨bz1, bz2, bz3, bz4⟩ := id bz

  refine ex_meth [(0, .ref 0), (1, .int g)] rfl rfl rfl (fun b => Nat.le_of_ble_eq_true rfl) ?_
  unfold f_fill
  by_cases hx : nI 0 ≤ g ∧ g ≤ nI 255
  · rw [cif_y hx]
    obtain ⟨j, hj, rfl⟩ := nI_of3 (by decide) hx
    rw [nI_clamp (show j < 2 ^ 31 by omega)]
    refine ew_iload_n (M := mX9_fill) dX9_fill_0 rfl ?_
    refine ew_iconst (M := mX9_fill) dX9_fill_1 (v := nI 0) (by decide) ?_
    refine ew_sipush (M := mX9_fill) dX9_fill_2 (v := nI 255) (by decide) ?_
    refine ew_callS (M := mX9_fill) dX9_fill_5 vX9_66 (sp_within_y hx.1 hx.2) rfl (Nat.le_of_ble_eq_true rfl) ⟨Nat.le_refl _, Nat.le_refl _⟩ rfl (fun H5 r5 q5 => ?_)
    obtain ⟨rfl, rfl⟩ := q5
    refine ew_if_ne (M := mX9_fill) (tgt := 14) dX9_fill_8 rfl (fun _ => ?_) (fun h => absurd h (by decide))
    refine ew_aload_n (M := mX9_fill) dX9_fill_14 rfl (Or.inr (Or.inl ⟨_, rfl⟩)) ?_
    refine ew_get (M := mX9_fill) dX9_fill_15 fX9_19 (by repeat (first | with_reducible assumption | refine ex_eq ?_ | refine ex_ne ?_ (by omega) | exact ex_lt (by with_reducible assumption) | rw [List.length_set] | assumption)) (by rfl) ?_
    refine ew_get (M := mX9_fill) dX9_fill_18 fX9_129 (by repeat (first | with_reducible assumption | refine ex_eq ?_ | refine ex_ne ?_ (by omega) | exact ex_lt (by with_reducible assumption) | rw [List.length_set] | assumption)) (by rfl) ?_
    refine ew_istore_n (M := mX9_fill) dX9_fill_21 (by decide) rfl ?_
    refine ew_aload_n (M := mX9_fill) dX9_fill_22 rfl (Or.inr (Or.inl ⟨_, rfl⟩)) ?_
    refine ew_get (M := mX9_fill) dX9_fill_23 fX9_19 (by repeat (first | with_reducible assumption | refine ex_eq ?_ | refine ex_ne ?_ (by omega) | exact ex_lt (by with_reducible assumption) | rw [List.length_set] | assumption)) (by rfl) ?_
    refine ew_iload_n (M := mX9_fill) dX9_fill_26 rfl ?_
    refine ew_put (M := mX9_fill) dX9_fill_27 fX9_129 (by repeat (first | with_reducible assumption | refine ex_eq ?_ | refine ex_ne ?_ (by omega) | exact ex_lt (by with_reducible assumption) | rw [List.length_set] | assumption)) (by exact Nat.le_of_ble_eq_true rfl) ⟨rfl, rfl, fun _ h => by cases h⟩ ?_
    refine ew_iload_n (M := mX9_fill) dX9_fill_30 rfl ?_
    refine ew_iret (M := mX9_fill) dX9_fill_31 rfl (by first | rfl | decide) (Nat.le_refl _) (Nat.le_refl _) ?_
    have hc1 : ex_ch H (H.set 3 (ob 6 [.ref 4, .ref 7, .int (nI j), .int (nI S.2.2.1.2.2.2)])) [3] := ex_ch.rf.set (by simp)
    exact ⟨rfl, hc1.sub (fun k hk => Or.inl (by rw [cL_mem]; simp at hk; omega)), cl_now hS (hc1.sub (by simp)) ⟨ex_eq (ex_lt b1), (show j < 256 by omega), b3, b4.ch hc1 (by simp) (by simp) (by simp), b5.ch hc1 (by simp) (by simp) (by simp)⟩⟩
  · rw [cif_n hx]
    refine ew_iload_n (M := mX9_fill) dX9_fill_0 rfl ?_
    refine ew_iconst (M := mX9_fill) dX9_fill_1 (v := nI 0) (by decide) ?_
    refine ew_sipush (M := mX9_fill) dX9_fill_2 (v := nI 255) (by decide) ?_
    refine ew_callS (M := mX9_fill) dX9_fill_5 vX9_66 (sp_within_n hx) rfl (Nat.le_of_ble_eq_true rfl) ⟨Nat.le_refl _, Nat.le_refl _⟩ rfl (fun H5 r5 q5 => ?_)
    obtain ⟨rfl, rfl⟩ := q5
    refine ew_if_ne (M := mX9_fill) (tgt := 14) dX9_fill_8 rfl (fun h => absurd rfl h) (fun _ => ?_)
    refine ew_ldc (M := mX9_fill) dX9_fill_11 kX9_70 ?_
    refine ew_iret (M := mX9_fill) dX9_fill_13 rfl (by first | rfl | decide) (Nat.le_refl _) (Nat.le_refl _) ?_
    exact ⟨rfl, ex_ch.rf, hS⟩
noncomputable def f_seed (S : SS) (v : Int32) : Int32 × SS := cif (0 ≤ v) (nI S.2.2.1.2.2.2, s_now S (S.2.2.1.1, S.2.2.1.2.1, S.2.2.1.2.2.1, v.toNatClampNeg)) (-1000000002, S)
theorem cs_seed {d : Nat} {H : ex_H} {S : SS} (hS : cl_is H S) (v : Int32) : ex_Met mX9_seed d 0 0 H [.ref 0, .int v] (fun H' r => r = some (.int (f_seed S v).1) ∧ ex_ch H H' cL ∧ cl_is H' (f_seed S v).2) := by
  obtain ⟨a1, ⟨pl, a2⟩, a3, ⟨fa, a4, a5, a6⟩, a7, a8, ⟨fk, a9, a10⟩, a11, a12, ⟨cw, a13⟩, a14, a15⟩ := id hS
  obtain ⟨b1, b2, b3, b4, b5⟩ := id a3
  obtain ⟨⟨bz, bgm⟩, bgs, bms, ⟨bp1, bp2, bp3⟩, bct⟩ := id b4
  obtain ⟨bz1, bz2, bz3, bz4⟩ := id bz

  refine ex_meth [(0, .ref 0), (1, .int v)] rfl rfl rfl (fun b => Nat.le_of_ble_eq_true rfl) ?_
  unfold f_seed
  by_cases hx : 0 ≤ v
  · rw [cif_y hx]
    obtain ⟨j, hj, rfl⟩ := nI_of (Int32.not_lt.mpr hx)
    rw [nI_clamp hj]
    refine ew_iload_n (M := mX9_seed) dX9_seed_0 rfl ?_
    refine ew_if_ge (M := mX9_seed) (tgt := 7) dX9_seed_1 rfl (fun _ => ?_) (fun h => absurd hx h)
    refine ew_aload_n (M := mX9_seed) dX9_seed_7 rfl (Or.inr (Or.inl ⟨_, rfl⟩)) ?_
    refine ew_get (M := mX9_seed) dX9_seed_8 fX9_19 (by repeat (first | with_reducible assumption | refine ex_eq ?_ | refine ex_ne ?_ (by omega) | exact ex_lt (by with_reducible assumption) | rw [List.length_set] | assumption)) (by rfl) ?_
    refine ew_get (M := mX9_seed) dX9_seed_11 fX9_224 (by repeat (first | with_reducible assumption | refine ex_eq ?_ | refine ex_ne ?_ (by omega) | exact ex_lt (by with_reducible assumption) | rw [List.length_set] | assumption)) (by rfl) ?_
    refine ew_istore_n (M := mX9_seed) dX9_seed_14 (by decide) rfl ?_
    refine ew_aload_n (M := mX9_seed) dX9_seed_15 rfl (Or.inr (Or.inl ⟨_, rfl⟩)) ?_
    refine ew_get (M := mX9_seed) dX9_seed_16 fX9_19 (by repeat (first | with_reducible assumption | refine ex_eq ?_ | refine ex_ne ?_ (by omega) | exact ex_lt (by with_reducible assumption) | rw [List.length_set] | assumption)) (by rfl) ?_
    refine ew_iload_n (M := mX9_seed) dX9_seed_19 rfl ?_
    refine ew_put (M := mX9_seed) dX9_seed_20 fX9_224 (by repeat (first | with_reducible assumption | refine ex_eq ?_ | refine ex_ne ?_ (by omega) | exact ex_lt (by with_reducible assumption) | rw [List.length_set] | assumption)) (by exact Nat.le_of_ble_eq_true rfl) ⟨rfl, rfl, fun _ h => by cases h⟩ ?_
    refine ew_iload_n (M := mX9_seed) dX9_seed_23 rfl ?_
    refine ew_iret (M := mX9_seed) dX9_seed_24 rfl (by first | rfl | decide) (Nat.le_refl _) (Nat.le_refl _) ?_
    have hc1 : ex_ch H (H.set 3 (ob 6 [.ref 4, .ref 7, .int (nI S.2.2.1.2.2.1), .int (nI j)])) [3] := ex_ch.rf.set (by simp)
    exact ⟨rfl, hc1.sub (fun k hk => Or.inl (by rw [cL_mem]; simp at hk; omega)), cl_now hS (hc1.sub (by simp)) ⟨ex_eq (ex_lt b1), b2, hj, b4.ch hc1 (by simp) (by simp) (by simp), b5.ch hc1 (by simp) (by simp) (by simp)⟩⟩
  · rw [cif_n hx]
    refine ew_iload_n (M := mX9_seed) dX9_seed_0 rfl ?_
    refine ew_if_ge (M := mX9_seed) (tgt := 7) dX9_seed_1 rfl (fun h => absurd h hx) (fun _ => ?_)
    refine ew_ldc (M := mX9_seed) dX9_seed_4 kX9_70 ?_
    refine ew_iret (M := mX9_seed) dX9_seed_6 rfl (by first | rfl | decide) (Nat.le_refl _) (Nat.le_refl _) ?_
    exact ⟨rfl, ex_ch.rf, hS⟩
noncomputable def f_write (S : SS) (x y g : Int32) : Int32 × SS := cif (pi_in S.2.2.1.1.1 S.2.2.1.1.2.1 x y) (cif (S.2.2.2.2.2.2.1 < 20) (nI (S.2.2.2.2.2.2.1 + 1), s_book S (S.2.2.2.2.2.2.1 + 1, va_up S.2.2.2.2.2.2.2 S.2.2.2.2.2.2.1 (x.toNatClampNeg, y.toNatClampNeg, g))) (-1000000004, S)) (-1000000001, S)
theorem cs_write {d : Nat} {H : ex_H} {S : SS} (hS : cl_is H S) (x y g : Int32) : ex_Met mX9_write (d + 1) 0 0 H [.ref 0, .int x, .int y, .int g] (fun H' r => r = some (.int (f_write S x y g).1) ∧ ex_ch H H' cL ∧ cl_is H' (f_write S x y g).2) := by
  obtain ⟨a1, ⟨pl, a2⟩, a3, ⟨fa, a4, a5, a6⟩, a7, a8, ⟨fk, a9, a10⟩, a11, a12, ⟨cw, a13⟩, a14, a15⟩ := id hS
  obtain ⟨b1, b2, b3, b4, b5⟩ := id a3
  obtain ⟨⟨bz, bgm⟩, bgs, bms, ⟨bp1, bp2, bp3⟩, bct⟩ := id b4
  obtain ⟨bz1, bz2, bz3, bz4⟩ := id bz
  obtain ⟨b20, -, a121, -⟩ := id a12
  refine ex_meth [(0, .ref 0), (1, .int x), (2, .int y), (3, .int g)] rfl rfl rfl (fun b => Nat.le_of_ble_eq_true rfl) ?_
  unfold f_write
  by_cases hin : pi_in S.2.2.1.1.1 S.2.2.1.1.2.1 x y
  · rw [cif_y hin]
    obtain ⟨i, j, rfl, hi, rfl, hj⟩ := id hin
    rw [nI_clamp (show i < 2 ^ 31 by omega), nI_clamp (show j < 2 ^ 31 by omega)]
    by_cases hn : S.2.2.2.2.2.2.1 < 20
    · rw [cif_y hn]
      refine ew_aload_n (M := mX9_write) dX9_write_0 rfl (Or.inr (Or.inl ⟨_, rfl⟩)) ?_
      refine ew_get (M := mX9_write) dX9_write_1 fX9_19 (by repeat (first | with_reducible assumption | refine ex_eq ?_ | refine ex_ne ?_ (by omega) | exact ex_lt (by with_reducible assumption) | rw [List.length_set] | assumption)) (by rfl) ?_
      refine ew_get (M := mX9_write) dX9_write_4 fX9_86 (by repeat (first | with_reducible assumption | refine ex_eq ?_ | refine ex_ne ?_ (by omega) | exact ex_lt (by with_reducible assumption) | rw [List.length_set] | assumption)) (by rfl) ?_
      refine ew_iload_n (M := mX9_write) dX9_write_7 rfl ?_
      refine ew_iload_n (M := mX9_write) dX9_write_8 rfl ?_
      refine ew_callV (M := mX9_write) dX9_write_9 vX9_137 (by repeat (first | with_reducible assumption | refine ex_eq ?_ | refine ex_ne ?_ (by omega) | exact ex_lt (by with_reducible assumption) | rw [List.length_set] | assumption)) rfl (sp_has_y b4 hi hj) rfl (Nat.le_of_ble_eq_true rfl) ⟨Nat.le_refl _, Nat.le_refl _⟩ rfl (fun H9 r9 q9 => ?_)
      obtain ⟨rfl, rfl⟩ := q9
      refine ew_if_ne (M := mX9_write) (tgt := 18) dX9_write_12 rfl (fun _ => ?_) (fun h => absurd h (by decide))
      refine ew_aload_n (M := mX9_write) dX9_write_18 rfl (Or.inr (Or.inl ⟨_, rfl⟩)) ?_
      refine ew_get (M := mX9_write) dX9_write_19 fX9_41 (by repeat (first | with_reducible assumption | refine ex_eq ?_ | refine ex_ne ?_ (by omega) | exact ex_lt (by with_reducible assumption) | rw [List.length_set] | assumption)) (by rfl) ?_
      refine ew_iload_n (M := mX9_write) dX9_write_22 rfl ?_
      refine ew_iload_n (M := mX9_write) dX9_write_23 rfl ?_
      refine ew_iload_n (M := mX9_write) dX9_write_24 rfl ?_
      refine ew_callV (M := mX9_write) dX9_write_25 vX9_231 (by repeat (first | with_reducible assumption | refine ex_eq ?_ | refine ex_ne ?_ (by omega) | exact ex_lt (by with_reducible assumption) | rw [List.length_set] | assumption)) rfl (sp_badd a12 hn (by omega) (by omega)) rfl (Nat.le_of_ble_eq_true rfl) ⟨Nat.le_refl _, Nat.le_refl _⟩ rfl (fun H25 r25 q25 => ?_)
      obtain ⟨rfl, hc1, hb1⟩ := q25
      refine ew_iret (M := mX9_write) dX9_write_28 rfl (by first | rfl | decide) (Nat.le_refl _) (Nat.le_refl _) ?_
      exact ⟨rfl, hc1.sub (fun k hk => Or.inl (by rw [cL_mem]; simp at hk; omega)), cl_book hS hc1 hb1⟩
    · rw [cif_n hn]
      refine ew_aload_n (M := mX9_write) dX9_write_0 rfl (Or.inr (Or.inl ⟨_, rfl⟩)) ?_
      refine ew_get (M := mX9_write) dX9_write_1 fX9_19 (by repeat (first | with_reducible assumption | refine ex_eq ?_ | refine ex_ne ?_ (by omega) | exact ex_lt (by with_reducible assumption) | rw [List.length_set] | assumption)) (by rfl) ?_
      refine ew_get (M := mX9_write) dX9_write_4 fX9_86 (by repeat (first | with_reducible assumption | refine ex_eq ?_ | refine ex_ne ?_ (by omega) | exact ex_lt (by with_reducible assumption) | rw [List.length_set] | assumption)) (by rfl) ?_
      refine ew_iload_n (M := mX9_write) dX9_write_7 rfl ?_
      refine ew_iload_n (M := mX9_write) dX9_write_8 rfl ?_
      refine ew_callV (M := mX9_write) dX9_write_9 vX9_137 (by repeat (first | with_reducible assumption | refine ex_eq ?_ | refine ex_ne ?_ (by omega) | exact ex_lt (by with_reducible assumption) | rw [List.length_set] | assumption)) rfl (sp_has_y b4 hi hj) rfl (Nat.le_of_ble_eq_true rfl) ⟨Nat.le_refl _, Nat.le_refl _⟩ rfl (fun H9 r9 q9 => ?_)
      obtain ⟨rfl, rfl⟩ := q9
      refine ew_if_ne (M := mX9_write) (tgt := 18) dX9_write_12 rfl (fun _ => ?_) (fun h => absurd h (by decide))
      refine ew_aload_n (M := mX9_write) dX9_write_18 rfl (Or.inr (Or.inl ⟨_, rfl⟩)) ?_
      refine ew_get (M := mX9_write) dX9_write_19 fX9_41 (by repeat (first | with_reducible assumption | refine ex_eq ?_ | refine ex_ne ?_ (by omega) | exact ex_lt (by with_reducible assumption) | rw [List.length_set] | assumption)) (by rfl) ?_
      refine ew_iload_n (M := mX9_write) dX9_write_22 rfl ?_
      refine ew_iload_n (M := mX9_write) dX9_write_23 rfl ?_
      refine ew_iload_n (M := mX9_write) dX9_write_24 rfl ?_
      refine ew_callV (M := mX9_write) dX9_write_25 vX9_231 (by repeat (first | with_reducible assumption | refine ex_eq ?_ | refine ex_ne ?_ (by omega) | exact ex_lt (by with_reducible assumption) | rw [List.length_set] | assumption)) rfl (sp_badd_f a12 (by omega)) rfl (Nat.le_of_ble_eq_true rfl) ⟨Nat.le_refl _, Nat.le_refl _⟩ rfl (fun H25 r25 q25 => ?_)
      obtain ⟨rfl, rfl⟩ := q25
      refine ew_iret (M := mX9_write) dX9_write_28 rfl (by first | rfl | decide) (Nat.le_refl _) (Nat.le_refl _) ?_
      exact ⟨rfl, ex_ch.rf, hS⟩
  · rw [cif_n hin]
    refine ew_aload_n (M := mX9_write) dX9_write_0 rfl (Or.inr (Or.inl ⟨_, rfl⟩)) ?_
    refine ew_get (M := mX9_write) dX9_write_1 fX9_19 (by repeat (first | with_reducible assumption | refine ex_eq ?_ | refine ex_ne ?_ (by omega) | exact ex_lt (by with_reducible assumption) | rw [List.length_set] | assumption)) (by rfl) ?_
    refine ew_get (M := mX9_write) dX9_write_4 fX9_86 (by repeat (first | with_reducible assumption | refine ex_eq ?_ | refine ex_ne ?_ (by omega) | exact ex_lt (by with_reducible assumption) | rw [List.length_set] | assumption)) (by rfl) ?_
    refine ew_iload_n (M := mX9_write) dX9_write_7 rfl ?_
    refine ew_iload_n (M := mX9_write) dX9_write_8 rfl ?_
    refine ew_callV (M := mX9_write) dX9_write_9 vX9_137 (by repeat (first | with_reducible assumption | refine ex_eq ?_ | refine ex_ne ?_ (by omega) | exact ex_lt (by with_reducible assumption) | rw [List.length_set] | assumption)) rfl (sp_has_n b4 hin) rfl (Nat.le_of_ble_eq_true rfl) ⟨Nat.le_refl _, Nat.le_refl _⟩ rfl (fun H9 r9 q9 => ?_)
    obtain ⟨rfl, rfl⟩ := q9
    refine ew_if_ne (M := mX9_write) (tgt := 18) dX9_write_12 rfl (fun h => absurd rfl h) (fun _ => ?_)
    refine ew_ldc (M := mX9_write) dX9_write_15 kX9_141 ?_
    refine ew_iret (M := mX9_write) dX9_write_17 rfl (by first | rfl | decide) (Nat.le_refl _) (Nat.le_refl _) ?_
    exact ⟨rfl, ex_ch.rf, hS⟩
def f_tear (S : SS) : Int32 × SS := (nI S.2.2.2.2.2.2.1, s_book S (0, S.2.2.2.2.2.2.2))
theorem cs_tear {d : Nat} {H : ex_H} {S : SS} (hS : cl_is H S) : ex_Met mX9_tear d 0 0 H [.ref 0] (fun H' r => r = some (.int (f_tear S).1) ∧ ex_ch H H' cL ∧ cl_is H' (f_tear S).2) := by
  obtain ⟨a1, ⟨pl, a2⟩, a3, ⟨fa, a4, a5, a6⟩, a7, a8, ⟨fk, a9, a10⟩, a11, a12, ⟨cw, a13⟩, a14, a15⟩ := id hS
  obtain ⟨b20, bb, a121, xs, ys, gs, c1, c2, c3, c4⟩ := id a12
  refine ex_meth [(0, .ref 0)] rfl rfl rfl (fun b => Nat.le_of_ble_eq_true rfl) ?_
  refine ew_aload_n (M := mX9_tear) dX9_tear_0 rfl (Or.inr (Or.inl ⟨_, rfl⟩)) ?_
  refine ew_get (M := mX9_tear) dX9_tear_1 fX9_41 (by repeat (first | with_reducible assumption | refine ex_eq ?_ | refine ex_ne ?_ (by omega) | exact ex_lt (by with_reducible assumption) | rw [List.length_set] | assumption)) (by rfl) ?_
  refine ew_get (M := mX9_tear) dX9_tear_4 fX9_132 (by repeat (first | with_reducible assumption | refine ex_eq ?_ | refine ex_ne ?_ (by omega) | exact ex_lt (by with_reducible assumption) | rw [List.length_set] | assumption)) (by rfl) ?_
  refine ew_istore_n (M := mX9_tear) dX9_tear_7 (by decide) rfl ?_
  refine ew_aload_n (M := mX9_tear) dX9_tear_8 rfl (Or.inr (Or.inl ⟨_, rfl⟩)) ?_
  refine ew_get (M := mX9_tear) dX9_tear_9 fX9_41 (by repeat (first | with_reducible assumption | refine ex_eq ?_ | refine ex_ne ?_ (by omega) | exact ex_lt (by with_reducible assumption) | rw [List.length_set] | assumption)) (by rfl) ?_
  refine ew_iconst (M := mX9_tear) dX9_tear_12 (v := nI 0) (by decide) ?_
  refine ew_put (M := mX9_tear) dX9_tear_13 fX9_132 (by repeat (first | with_reducible assumption | refine ex_eq ?_ | refine ex_ne ?_ (by omega) | exact ex_lt (by with_reducible assumption) | rw [List.length_set] | assumption)) (by exact Nat.le_of_ble_eq_true rfl) ⟨rfl, rfl, fun _ h => by cases h⟩ ?_
  refine ew_iload_n (M := mX9_tear) dX9_tear_16 rfl ?_
  refine ew_iret (M := mX9_tear) dX9_tear_17 rfl (by first | rfl | decide) (Nat.le_refl _) (Nat.le_refl _) ?_
  have hc1 : ex_ch H (H.set 73 (ob 0 [.int (nI 0), .ref 74, .ref 75, .ref 76])) [73] := ex_ch.rf.set (by simp)
  exact ⟨rfl, hc1.sub (fun k hk => Or.inl (by rw [cL_mem]; simp at hk; omega)), cl_book hS (hc1.sub (by simp)) ⟨by omega, fun k hk => absurd hk (Nat.not_lt_zero k), ex_eq (ex_lt a121), xs, ys, gs, hc1.at c1 (by simp), hc1.at c2 (by simp), hc1.at c3 (by simp), fun k hk => absurd hk (Nat.not_lt_zero k)⟩⟩
