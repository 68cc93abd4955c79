def cnv (P : PT) (v : FV) (fi x y : Nat) : Nat → Nat := cnts P.1 P.2.1 P.2.2.1 P.2.2.2 fi v.1 v.2.1 v.2.2.2.1 v.2.2.2.2 x y
noncomputable def f_wouldV (P : PT) (v : FV) (fi i j : Nat) (t : Int32) : Int32 := cif (t = nI 0) (lsI P v fi i j) (cif (t = nI 1) (nI (bs (cnv P v fi i j) 0 256)) (cif (t = nI 2) (nI (bs (cnv P v fi i j) 0 (P.2.2.1 (j * P.1 + i)))) (cif (t = nI 3) (cif (bs (cnv P v fi i j) 0 256 = 0) (-1) (nI (kv (cnv P v fi i j) (bs (cnv P v fi i j) 0 256 - 1)) - nI (kv (cnv P v fi i j) 0))) (-1000000002))))
noncomputable def f_would (S : SS) (f x y t : Int32) : Int32 × SS := (cif (fin S.2.2.1.2.1.1 f ∧ pi_in S.2.2.1.1.1 S.2.2.1.1.2.1 x y) (f_wouldV S.2.2.1.1 (S.2.2.1.2.1.2 f.toNatClampNeg) S.2.2.1.2.2.1 x.toNatClampNeg y.toNatClampNeg t) (-1000000001), S)
theorem cs_would {d : Nat} {H : ex_H} {S : SS} (hS : cl_is H S) (f x y t : Int32) : ex_Met mX9_would (d + 4) 0 0 H [.ref 0, .int f, .int x, .int y, .int t] (fun H' r => r = some (.int (f_would S f x y t).1) ∧ ex_ch H H' cL ∧ cl_is H' (f_would S f x y t).2) := by
  obtain ⟨a1, ⟨pl, a2⟩, a3, ⟨fa, a4, a5, a6⟩, a7, a8, ⟨fk, a9, a10⟩, a11, a12, ⟨cw, a13⟩, a14, a15⟩ := id hS
  obtain ⟨b1, b2, b3, b4, b5⟩ := id a3
  obtain ⟨⟨bz, bgm⟩, bgs, bms, ⟨bp1, bp2, bp3⟩, bct⟩ := id b4
  obtain ⟨bz1, bz2, bz3, bz4⟩ := id bz
  obtain ⟨b51, b52, b53⟩ := id b5
  obtain ⟨w1, co, fn, w2, w3, w4⟩ := id a13
  refine ex_meth [(0, .ref 0), (1, .int f), (2, .int x), (3, .int y), (4, .int t)] rfl rfl rfl (fun b => Nat.le_of_ble_eq_true rfl) ?_
  unfold f_would
  by_cases hx : fin S.2.2.1.2.1.1 f
  · obtain ⟨k, hk, rfl⟩ := id hx
    by_cases hin : pi_in S.2.2.1.1.1 S.2.2.1.1.2.1 x y
    · rw [cif_y ⟨hx, hin⟩]
      obtain ⟨i, j, rfl, hi, rfl, hj⟩ := id hin
      rw [nI_clamp (show k < 2 ^ 31 by omega), nI_clamp (show i < 2 ^ 31 by omega), nI_clamp (show j < 2 ^ 31 by omega)]
      unfold f_wouldV
      by_cases q0 : t = nI 0
      · rw [cif_y q0]
        subst q0
        by_cases hN0 : bs (cnv S.2.2.1.1 (S.2.2.1.2.1.2 k) S.2.2.1.2.2.1 i j) 0 256 = 0
        · have e0 : lsI S.2.2.1.1 (S.2.2.1.2.1.2 k) S.2.2.1.2.2.1 i j = -1 := by unfold lsI; exact if_pos hN0
          rw [e0]
          refine ew_aload_n (M := mX9_would) dX9_would_0 rfl (Or.inr (Or.inl ⟨_, rfl⟩)) ?_
          refine ew_get (M := mX9_would) dX9_would_1 fX9_19 (by repeat (first | with_reducible assumption | refine ex_eq ?_ | refine ex_ne ?_ (by omega) | exact ex_lt (by with_reducible assumption) | rw [List.length_set] | assumption)) (by rfl) ?_
          refine ew_get (M := mX9_would) dX9_would_4 fX9_120 (by repeat (first | with_reducible assumption | refine ex_eq ?_ | refine ex_ne ?_ (by omega) | exact ex_lt (by with_reducible assumption) | rw [List.length_set] | assumption)) (by rfl) ?_
          refine ew_iload_n (M := mX9_would) dX9_would_7 rfl ?_
          refine ew_callV (M := mX9_would) dX9_would_8 vX9_167 (by repeat (first | with_reducible assumption | refine ex_eq ?_ | refine ex_ne ?_ (by omega) | exact ex_lt (by with_reducible assumption) | rw [List.length_set] | assumption)) rfl (sp_numbered b5 hk) rfl (Nat.le_of_ble_eq_true rfl) ⟨Nat.le_refl _, Nat.le_refl _⟩ rfl (fun H8 r8 q8 => ?_)
          obtain ⟨a, rfl, rfl, ha98, hav⟩ := q8
          obtain ⟨v1, v2, v3, v4, v5, v6, v7⟩ := id hav
          refine ew_astore (M := mX9_would) dX9_would_11 (Or.inr ⟨_, rfl⟩) (by decide) rfl ?_
          refine ew_aload (M := mX9_would) dX9_would_13 rfl (Or.inr (Or.inl ⟨_, rfl⟩)) ?_
          refine ew_ifnull (v := some a) (M := mX9_would) (tgt := 33) dX9_would_15 rfl (fun h => by cases h) (fun _ _ => ?_)
          refine ew_aload_n (M := mX9_would) dX9_would_18 rfl (Or.inr (Or.inl ⟨_, rfl⟩)) ?_
          refine ew_get (M := mX9_would) dX9_would_19 fX9_19 (by repeat (first | with_reducible assumption | refine ex_eq ?_ | refine ex_ne ?_ (by omega) | exact ex_lt (by with_reducible assumption) | rw [List.length_set] | assumption)) (by rfl) ?_
          refine ew_get (M := mX9_would) dX9_would_22 fX9_86 (by repeat (first | with_reducible assumption | refine ex_eq ?_ | refine ex_ne ?_ (by omega) | exact ex_lt (by with_reducible assumption) | rw [List.length_set] | assumption)) (by rfl) ?_
          refine ew_iload_n (M := mX9_would) dX9_would_25 rfl ?_
          refine ew_iload_n (M := mX9_would) dX9_would_26 rfl ?_
          refine ew_callV (M := mX9_would) dX9_would_27 vX9_137 (by repeat (first | with_reducible assumption | refine ex_eq ?_ | refine ex_ne ?_ (by omega) | exact ex_lt (by with_reducible assumption) | rw [List.length_set] | assumption)) rfl (sp_has_y b4 hi hj) rfl (Nat.le_of_ble_eq_true rfl) ⟨Nat.le_refl _, Nat.le_refl _⟩ rfl (fun H27 r27 q27 => ?_)
          obtain ⟨rfl, rfl⟩ := q27
          refine ew_if_ne (M := mX9_would) (tgt := 36) dX9_would_30 rfl (fun _ => ?_) (fun h => absurd h (by decide))
          refine ew_iload (M := mX9_would) dX9_would_36 rfl ?_
          refine ew_iconst (M := mX9_would) dX9_would_38 (v := nI 0) (by decide) ?_
          refine ew_iconst (M := mX9_would) dX9_would_39 (v := nI 3) (by decide) ?_
          refine ew_callS (M := mX9_would) dX9_would_40 vX9_66 (sp_within_y (nI_le (Nat.zero_le 0) (by decide)) (nI_le (b := 3) (by decide) (by decide))) rfl (Nat.le_of_ble_eq_true rfl) ⟨Nat.le_refl _, Nat.le_refl _⟩ rfl (fun H40 r40 q40 => ?_)
          obtain ⟨rfl, rfl⟩ := q40
          refine ew_if_ne (M := mX9_would) (tgt := 49) dX9_would_43 rfl (fun _ => ?_) (fun h => absurd h (by decide))
          refine ew_aload_n (M := mX9_would) dX9_would_49 rfl (Or.inr (Or.inl ⟨_, rfl⟩)) ?_
          refine ew_get (M := mX9_would) dX9_would_50 fX9_48 (by repeat (first | with_reducible assumption | refine ex_eq ?_ | refine ex_ne ?_ (by omega) | exact ex_lt (by with_reducible assumption) | rw [List.length_set] | assumption)) (by rfl) ?_
          refine ew_aload_n (M := mX9_would) dX9_would_53 rfl (Or.inr (Or.inl ⟨_, rfl⟩)) ?_
          refine ew_get (M := mX9_would) dX9_would_54 fX9_19 (by repeat (first | with_reducible assumption | refine ex_eq ?_ | refine ex_ne ?_ (by omega) | exact ex_lt (by with_reducible assumption) | rw [List.length_set] | assumption)) (by rfl) ?_
          refine ew_get (M := mX9_would) dX9_would_57 fX9_86 (by repeat (first | with_reducible assumption | refine ex_eq ?_ | refine ex_ne ?_ (by omega) | exact ex_lt (by with_reducible assumption) | rw [List.length_set] | assumption)) (by rfl) ?_
          refine ew_aload (M := mX9_would) dX9_would_60 rfl (Or.inr (Or.inl ⟨_, rfl⟩)) ?_
          refine ew_aload_n (M := mX9_would) dX9_would_62 rfl (Or.inr (Or.inl ⟨_, rfl⟩)) ?_
          refine ew_get (M := mX9_would) dX9_would_63 fX9_19 (by repeat (first | with_reducible assumption | refine ex_eq ?_ | refine ex_ne ?_ (by omega) | exact ex_lt (by with_reducible assumption) | rw [List.length_set] | assumption)) (by rfl) ?_
          refine ew_get (M := mX9_would) dX9_would_66 fX9_129 (by repeat (first | with_reducible assumption | refine ex_eq ?_ | refine ex_ne ?_ (by omega) | exact ex_lt (by with_reducible assumption) | rw [List.length_set] | assumption)) (by rfl) ?_
          refine ew_iload_n (M := mX9_would) dX9_would_69 rfl ?_
          refine ew_iload_n (M := mX9_would) dX9_would_70 rfl ?_
          refine ew_callV (M := mX9_would) dX9_would_71 vX9_174 (by repeat (first | with_reducible assumption | refine ex_eq ?_ | refine ex_ne ?_ (by omega) | exact ex_lt (by with_reducible assumption) | rw [List.length_set] | assumption)) rfl (sp_lookAt a13 b4 hav b2 hi hj (by omega) (by omega)) rfl (Nat.le_of_ble_eq_true rfl) ⟨Nat.le_refl _, Nat.le_refl _⟩ rfl (fun H71 r71 q71 => ?_)
          obtain ⟨rfl, hc1, hw1⟩ := q71
          have hw1 : wi_is H71 77 (cnv S.2.2.1.1 (S.2.2.1.2.1.2 k) S.2.2.1.2.2.1 i j) := hw1
          have a11' := hc1.at a1 (by simp)
          have b11' := hc1.at b1 (by simp)
          have b41' : pis H71 4 S.2.2.1.1 := b4.ch hc1 (by simp) (by simp) (by simp)
          obtain ⟨-, bgs', bms', ⟨bp1', bp2', bp3'⟩, -⟩ := id b41'
          have v11' := hc1.at v1 (by simp <;> omega)
          obtain ⟨w11, co1, fn1, w21, w31, w41⟩ := id hw1
          have hN : bs (cnv S.2.2.1.1 (S.2.2.1.2.1.2 k) S.2.2.1.2.2.1 i j) 0 256 ≤ 90 := cnts_le v2 v3 v7
          have hfin := cl_tmp hS (hc1.sub (by simp)) ⟨_, hw1⟩ (a14.ch hc1 (by simp) (by simp) (by simp)) (a15.ch hc1 (by simp) (by simp) (by simp))
          refine ew_iload (M := mX9_would) dX9_would_74 rfl ?_
          refine ew_tableIn (M := mX9_would) (tgt := 104) (off := 28) dX9_would_76 (by decide) (by decide) (by decide) rfl ?_
          refine ew_aload_n (M := mX9_would) dX9_would_104 rfl (Or.inr (Or.inl ⟨_, rfl⟩)) ?_
          refine ew_get (M := mX9_would) dX9_would_105 fX9_48 (by repeat (first | with_reducible assumption | refine ex_eq ?_ | refine ex_ne ?_ (by omega) | exact ex_lt (by with_reducible assumption) | rw [List.length_set] | assumption)) (by rfl) ?_
          refine ew_aload (M := mX9_would) dX9_would_108 rfl (Or.inr (Or.inl ⟨_, rfl⟩)) ?_
          refine ew_get (M := mX9_would) dX9_would_110 fX9_178 (by repeat (first | with_reducible assumption | refine ex_eq ?_ | refine ex_ne ?_ (by omega) | exact ex_lt (by with_reducible assumption) | rw [List.length_set] | assumption)) (by rfl) ?_
          refine ew_callV (M := mX9_would) dX9_would_113 vX9_181 (by repeat (first | with_reducible assumption | refine ex_eq ?_ | refine ex_ne ?_ (by omega) | exact ex_lt (by with_reducible assumption) | rw [List.length_set] | assumption)) rfl (sp_ranked0 hw1 hN0) rfl (Nat.le_of_ble_eq_true rfl) ⟨Nat.le_refl _, Nat.le_refl _⟩ rfl (fun H113 r113 q113 => ?_)
          obtain ⟨rfl, rfl⟩ := q113
          refine ew_iret (M := mX9_would) dX9_would_116 rfl (by first | rfl | decide) (Nat.le_refl _) (Nat.le_refl _) ?_
          exact ⟨rfl, hc1.sub (fun k hk => Or.inl (by rw [cL_mem]; simp at hk; omega)), hfin⟩
        · have e0 : lsI S.2.2.1.1 (S.2.2.1.2.1.2 k) S.2.2.1.2.2.1 i j = nI (lsV S.2.2.1.1 (S.2.2.1.2.1.2 k) S.2.2.1.2.2.1 i j) := by unfold lsI; exact if_neg hN0
          rw [e0]
          refine ew_aload_n (M := mX9_would) dX9_would_0 rfl (Or.inr (Or.inl ⟨_, rfl⟩)) ?_
          refine ew_get (M := mX9_would) dX9_would_1 fX9_19 (by repeat (first | with_reducible assumption | refine ex_eq ?_ | refine ex_ne ?_ (by omega) | exact ex_lt (by with_reducible assumption) | rw [List.length_set] | assumption)) (by rfl) ?_
          refine ew_get (M := mX9_would) dX9_would_4 fX9_120 (by repeat (first | with_reducible assumption | refine ex_eq ?_ | refine ex_ne ?_ (by omega) | exact ex_lt (by with_reducible assumption) | rw [List.length_set] | assumption)) (by rfl) ?_
          refine ew_iload_n (M := mX9_would) dX9_would_7 rfl ?_
          refine ew_callV (M := mX9_would) dX9_would_8 vX9_167 (by repeat (first | with_reducible assumption | refine ex_eq ?_ | refine ex_ne ?_ (by omega) | exact ex_lt (by with_reducible assumption) | rw [List.length_set] | assumption)) rfl (sp_numbered b5 hk) rfl (Nat.le_of_ble_eq_true rfl) ⟨Nat.le_refl _, Nat.le_refl _⟩ rfl (fun H8 r8 q8 => ?_)
          obtain ⟨a, rfl, rfl, ha98, hav⟩ := q8
          obtain ⟨v1, v2, v3, v4, v5, v6, v7⟩ := id hav
          refine ew_astore (M := mX9_would) dX9_would_11 (Or.inr ⟨_, rfl⟩) (by decide) rfl ?_
          refine ew_aload (M := mX9_would) dX9_would_13 rfl (Or.inr (Or.inl ⟨_, rfl⟩)) ?_
          refine ew_ifnull (v := some a) (M := mX9_would) (tgt := 33) dX9_would_15 rfl (fun h => by cases h) (fun _ _ => ?_)
          refine ew_aload_n (M := mX9_would) dX9_would_18 rfl (Or.inr (Or.inl ⟨_, rfl⟩)) ?_
          refine ew_get (M := mX9_would) dX9_would_19 fX9_19 (by repeat (first | with_reducible assumption | refine ex_eq ?_ | refine ex_ne ?_ (by omega) | exact ex_lt (by with_reducible assumption) | rw [List.length_set] | assumption)) (by rfl) ?_
          refine ew_get (M := mX9_would) dX9_would_22 fX9_86 (by repeat (first | with_reducible assumption | refine ex_eq ?_ | refine ex_ne ?_ (by omega) | exact ex_lt (by with_reducible assumption) | rw [List.length_set] | assumption)) (by rfl) ?_
          refine ew_iload_n (M := mX9_would) dX9_would_25 rfl ?_
          refine ew_iload_n (M := mX9_would) dX9_would_26 rfl ?_
          refine ew_callV (M := mX9_would) dX9_would_27 vX9_137 (by repeat (first | with_reducible assumption | refine ex_eq ?_ | refine ex_ne ?_ (by omega) | exact ex_lt (by with_reducible assumption) | rw [List.length_set] | assumption)) rfl (sp_has_y b4 hi hj) rfl (Nat.le_of_ble_eq_true rfl) ⟨Nat.le_refl _, Nat.le_refl _⟩ rfl (fun H27 r27 q27 => ?_)
          obtain ⟨rfl, rfl⟩ := q27
          refine ew_if_ne (M := mX9_would) (tgt := 36) dX9_would_30 rfl (fun _ => ?_) (fun h => absurd h (by decide))
          refine ew_iload (M := mX9_would) dX9_would_36 rfl ?_
          refine ew_iconst (M := mX9_would) dX9_would_38 (v := nI 0) (by decide) ?_
          refine ew_iconst (M := mX9_would) dX9_would_39 (v := nI 3) (by decide) ?_
          refine ew_callS (M := mX9_would) dX9_would_40 vX9_66 (sp_within_y (nI_le (Nat.zero_le 0) (by decide)) (nI_le (b := 3) (by decide) (by decide))) rfl (Nat.le_of_ble_eq_true rfl) ⟨Nat.le_refl _, Nat.le_refl _⟩ rfl (fun H40 r40 q40 => ?_)
          obtain ⟨rfl, rfl⟩ := q40
          refine ew_if_ne (M := mX9_would) (tgt := 49) dX9_would_43 rfl (fun _ => ?_) (fun h => absurd h (by decide))
          refine ew_aload_n (M := mX9_would) dX9_would_49 rfl (Or.inr (Or.inl ⟨_, rfl⟩)) ?_
          refine ew_get (M := mX9_would) dX9_would_50 fX9_48 (by repeat (first | with_reducible assumption | refine ex_eq ?_ | refine ex_ne ?_ (by omega) | exact ex_lt (by with_reducible assumption) | rw [List.length_set] | assumption)) (by rfl) ?_
          refine ew_aload_n (M := mX9_would) dX9_would_53 rfl (Or.inr (Or.inl ⟨_, rfl⟩)) ?_
          refine ew_get (M := mX9_would) dX9_would_54 fX9_19 (by repeat (first | with_reducible assumption | refine ex_eq ?_ | refine ex_ne ?_ (by omega) | exact ex_lt (by with_reducible assumption) | rw [List.length_set] | assumption)) (by rfl) ?_
          refine ew_get (M := mX9_would) dX9_would_57 fX9_86 (by repeat (first | with_reducible assumption | refine ex_eq ?_ | refine ex_ne ?_ (by omega) | exact ex_lt (by with_reducible assumption) | rw [List.length_set] | assumption)) (by rfl) ?_
          refine ew_aload (M := mX9_would) dX9_would_60 rfl (Or.inr (Or.inl ⟨_, rfl⟩)) ?_
          refine ew_aload_n (M := mX9_would) dX9_would_62 rfl (Or.inr (Or.inl ⟨_, rfl⟩)) ?_
          refine ew_get (M := mX9_would) dX9_would_63 fX9_19 (by repeat (first | with_reducible assumption | refine ex_eq ?_ | refine ex_ne ?_ (by omega) | exact ex_lt (by with_reducible assumption) | rw [List.length_set] | assumption)) (by rfl) ?_
          refine ew_get (M := mX9_would) dX9_would_66 fX9_129 (by repeat (first | with_reducible assumption | refine ex_eq ?_ | refine ex_ne ?_ (by omega) | exact ex_lt (by with_reducible assumption) | rw [List.length_set] | assumption)) (by rfl) ?_
          refine ew_iload_n (M := mX9_would) dX9_would_69 rfl ?_
          refine ew_iload_n (M := mX9_would) dX9_would_70 rfl ?_
          refine ew_callV (M := mX9_would) dX9_would_71 vX9_174 (by repeat (first | with_reducible assumption | refine ex_eq ?_ | refine ex_ne ?_ (by omega) | exact ex_lt (by with_reducible assumption) | rw [List.length_set] | assumption)) rfl (sp_lookAt a13 b4 hav b2 hi hj (by omega) (by omega)) rfl (Nat.le_of_ble_eq_true rfl) ⟨Nat.le_refl _, Nat.le_refl _⟩ rfl (fun H71 r71 q71 => ?_)
          obtain ⟨rfl, hc1, hw1⟩ := q71
          have hw1 : wi_is H71 77 (cnv S.2.2.1.1 (S.2.2.1.2.1.2 k) S.2.2.1.2.2.1 i j) := hw1
          have a11' := hc1.at a1 (by simp)
          have b11' := hc1.at b1 (by simp)
          have b41' : pis H71 4 S.2.2.1.1 := b4.ch hc1 (by simp) (by simp) (by simp)
          obtain ⟨-, bgs', bms', ⟨bp1', bp2', bp3'⟩, -⟩ := id b41'
          have v11' := hc1.at v1 (by simp <;> omega)
          obtain ⟨w11, co1, fn1, w21, w31, w41⟩ := id hw1
          have hN : bs (cnv S.2.2.1.1 (S.2.2.1.2.1.2 k) S.2.2.1.2.2.1 i j) 0 256 ≤ 90 := cnts_le v2 v3 v7
          have hfin := cl_tmp hS (hc1.sub (by simp)) ⟨_, hw1⟩ (a14.ch hc1 (by simp) (by simp) (by simp)) (a15.ch hc1 (by simp) (by simp) (by simp))
          refine ew_iload (M := mX9_would) dX9_would_74 rfl ?_
          refine ew_tableIn (M := mX9_would) (tgt := 104) (off := 28) dX9_would_76 (by decide) (by decide) (by decide) rfl ?_
          refine ew_aload_n (M := mX9_would) dX9_would_104 rfl (Or.inr (Or.inl ⟨_, rfl⟩)) ?_
          refine ew_get (M := mX9_would) dX9_would_105 fX9_48 (by repeat (first | with_reducible assumption | refine ex_eq ?_ | refine ex_ne ?_ (by omega) | exact ex_lt (by with_reducible assumption) | rw [List.length_set] | assumption)) (by rfl) ?_
          refine ew_aload (M := mX9_would) dX9_would_108 rfl (Or.inr (Or.inl ⟨_, rfl⟩)) ?_
          refine ew_get (M := mX9_would) dX9_would_110 fX9_178 (by repeat (first | with_reducible assumption | refine ex_eq ?_ | refine ex_ne ?_ (by omega) | exact ex_lt (by with_reducible assumption) | rw [List.length_set] | assumption)) (by rfl) ?_
          refine ew_callV (M := mX9_would) dX9_would_113 vX9_181 (by repeat (first | with_reducible assumption | refine ex_eq ?_ | refine ex_ne ?_ (by omega) | exact ex_lt (by with_reducible assumption) | rw [List.length_set] | assumption)) rfl (sp_ranked hw1 v4 (by omega) (by omega)) rfl (Nat.le_of_ble_eq_true rfl) ⟨Nat.le_refl _, Nat.le_refl _⟩ rfl (fun H113 r113 q113 => ?_)
          obtain ⟨rfl, rfl⟩ := q113
          refine ew_iret (M := mX9_would) dX9_would_116 rfl (by first | rfl | decide) (Nat.le_refl _) (Nat.le_refl _) ?_
          exact ⟨rfl, hc1.sub (fun k hk => Or.inl (by rw [cL_mem]; simp at hk; omega)), hfin⟩
      · rw [cif_n q0]
        by_cases q1 : t = nI 1
        · rw [cif_y q1]
          subst q1
          refine ew_aload_n (M := mX9_would) dX9_would_0 rfl (Or.inr (Or.inl ⟨_, rfl⟩)) ?_
          refine ew_get (M := mX9_would) dX9_would_1 fX9_19 (by repeat (first | with_reducible assumption | refine ex_eq ?_ | refine ex_ne ?_ (by omega) | exact ex_lt (by with_reducible assumption) | rw [List.length_set] | assumption)) (by rfl) ?_
          refine ew_get (M := mX9_would) dX9_would_4 fX9_120 (by repeat (first | with_reducible assumption | refine ex_eq ?_ | refine ex_ne ?_ (by omega) | exact ex_lt (by with_reducible assumption) | rw [List.length_set] | assumption)) (by rfl) ?_
          refine ew_iload_n (M := mX9_would) dX9_would_7 rfl ?_
          refine ew_callV (M := mX9_would) dX9_would_8 vX9_167 (by repeat (first | with_reducible assumption | refine ex_eq ?_ | refine ex_ne ?_ (by omega) | exact ex_lt (by with_reducible assumption) | rw [List.length_set] | assumption)) rfl (sp_numbered b5 hk) rfl (Nat.le_of_ble_eq_true rfl) ⟨Nat.le_refl _, Nat.le_refl _⟩ rfl (fun H8 r8 q8 => ?_)
          obtain ⟨a, rfl, rfl, ha98, hav⟩ := q8
          obtain ⟨v1, v2, v3, v4, v5, v6, v7⟩ := id hav
          refine ew_astore (M := mX9_would) dX9_would_11 (Or.inr ⟨_, rfl⟩) (by decide) rfl ?_
          refine ew_aload (M := mX9_would) dX9_would_13 rfl (Or.inr (Or.inl ⟨_, rfl⟩)) ?_
          refine ew_ifnull (v := some a) (M := mX9_would) (tgt := 33) dX9_would_15 rfl (fun h => by cases h) (fun _ _ => ?_)
          refine ew_aload_n (M := mX9_would) dX9_would_18 rfl (Or.inr (Or.inl ⟨_, rfl⟩)) ?_
          refine ew_get (M := mX9_would) dX9_would_19 fX9_19 (by repeat (first | with_reducible assumption | refine ex_eq ?_ | refine ex_ne ?_ (by omega) | exact ex_lt (by with_reducible assumption) | rw [List.length_set] | assumption)) (by rfl) ?_
          refine ew_get (M := mX9_would) dX9_would_22 fX9_86 (by repeat (first | with_reducible assumption | refine ex_eq ?_ | refine ex_ne ?_ (by omega) | exact ex_lt (by with_reducible assumption) | rw [List.length_set] | assumption)) (by rfl) ?_
          refine ew_iload_n (M := mX9_would) dX9_would_25 rfl ?_
          refine ew_iload_n (M := mX9_would) dX9_would_26 rfl ?_
          refine ew_callV (M := mX9_would) dX9_would_27 vX9_137 (by repeat (first | with_reducible assumption | refine ex_eq ?_ | refine ex_ne ?_ (by omega) | exact ex_lt (by with_reducible assumption) | rw [List.length_set] | assumption)) rfl (sp_has_y b4 hi hj) rfl (Nat.le_of_ble_eq_true rfl) ⟨Nat.le_refl _, Nat.le_refl _⟩ rfl (fun H27 r27 q27 => ?_)
          obtain ⟨rfl, rfl⟩ := q27
          refine ew_if_ne (M := mX9_would) (tgt := 36) dX9_would_30 rfl (fun _ => ?_) (fun h => absurd h (by decide))
          refine ew_iload (M := mX9_would) dX9_would_36 rfl ?_
          refine ew_iconst (M := mX9_would) dX9_would_38 (v := nI 0) (by decide) ?_
          refine ew_iconst (M := mX9_would) dX9_would_39 (v := nI 3) (by decide) ?_
          refine ew_callS (M := mX9_would) dX9_would_40 vX9_66 (sp_within_y (nI_le (Nat.zero_le 1) (by decide)) (nI_le (b := 3) (by decide) (by decide))) rfl (Nat.le_of_ble_eq_true rfl) ⟨Nat.le_refl _, Nat.le_refl _⟩ rfl (fun H40 r40 q40 => ?_)
          obtain ⟨rfl, rfl⟩ := q40
          refine ew_if_ne (M := mX9_would) (tgt := 49) dX9_would_43 rfl (fun _ => ?_) (fun h => absurd h (by decide))
          refine ew_aload_n (M := mX9_would) dX9_would_49 rfl (Or.inr (Or.inl ⟨_, rfl⟩)) ?_
          refine ew_get (M := mX9_would) dX9_would_50 fX9_48 (by repeat (first | with_reducible assumption | refine ex_eq ?_ | refine ex_ne ?_ (by omega) | exact ex_lt (by with_reducible assumption) | rw [List.length_set] | assumption)) (by rfl) ?_
          refine ew_aload_n (M := mX9_would) dX9_would_53 rfl (Or.inr (Or.inl ⟨_, rfl⟩)) ?_
          refine ew_get (M := mX9_would) dX9_would_54 fX9_19 (by repeat (first | with_reducible assumption | refine ex_eq ?_ | refine ex_ne ?_ (by omega) | exact ex_lt (by with_reducible assumption) | rw [List.length_set] | assumption)) (by rfl) ?_
          refine ew_get (M := mX9_would) dX9_would_57 fX9_86 (by repeat (first | with_reducible assumption | refine ex_eq ?_ | refine ex_ne ?_ (by omega) | exact ex_lt (by with_reducible assumption) | rw [List.length_set] | assumption)) (by rfl) ?_
          refine ew_aload (M := mX9_would) dX9_would_60 rfl (Or.inr (Or.inl ⟨_, rfl⟩)) ?_
          refine ew_aload_n (M := mX9_would) dX9_would_62 rfl (Or.inr (Or.inl ⟨_, rfl⟩)) ?_
          refine ew_get (M := mX9_would) dX9_would_63 fX9_19 (by repeat (first | with_reducible assumption | refine ex_eq ?_ | refine ex_ne ?_ (by omega) | exact ex_lt (by with_reducible assumption) | rw [List.length_set] | assumption)) (by rfl) ?_
          refine ew_get (M := mX9_would) dX9_would_66 fX9_129 (by repeat (first | with_reducible assumption | refine ex_eq ?_ | refine ex_ne ?_ (by omega) | exact ex_lt (by with_reducible assumption) | rw [List.length_set] | assumption)) (by rfl) ?_
          refine ew_iload_n (M := mX9_would) dX9_would_69 rfl ?_
          refine ew_iload_n (M := mX9_would) dX9_would_70 rfl ?_
          refine ew_callV (M := mX9_would) dX9_would_71 vX9_174 (by repeat (first | with_reducible assumption | refine ex_eq ?_ | refine ex_ne ?_ (by omega) | exact ex_lt (by with_reducible assumption) | rw [List.length_set] | assumption)) rfl (sp_lookAt a13 b4 hav b2 hi hj (by omega) (by omega)) rfl (Nat.le_of_ble_eq_true rfl) ⟨Nat.le_refl _, Nat.le_refl _⟩ rfl (fun H71 r71 q71 => ?_)
          obtain ⟨rfl, hc1, hw1⟩ := q71
          have hw1 : wi_is H71 77 (cnv S.2.2.1.1 (S.2.2.1.2.1.2 k) S.2.2.1.2.2.1 i j) := hw1
          have a11' := hc1.at a1 (by simp)
          have b11' := hc1.at b1 (by simp)
          have b41' : pis H71 4 S.2.2.1.1 := b4.ch hc1 (by simp) (by simp) (by simp)
          obtain ⟨-, bgs', bms', ⟨bp1', bp2', bp3'⟩, -⟩ := id b41'
          have v11' := hc1.at v1 (by simp <;> omega)
          obtain ⟨w11, co1, fn1, w21, w31, w41⟩ := id hw1
          have hN : bs (cnv S.2.2.1.1 (S.2.2.1.2.1.2 k) S.2.2.1.2.2.1 i j) 0 256 ≤ 90 := cnts_le v2 v3 v7
          have hfin := cl_tmp hS (hc1.sub (by simp)) ⟨_, hw1⟩ (a14.ch hc1 (by simp) (by simp) (by simp)) (a15.ch hc1 (by simp) (by simp) (by simp))
          refine ew_iload (M := mX9_would) dX9_would_74 rfl ?_
          refine ew_tableIn (M := mX9_would) (tgt := 117) (off := 41) dX9_would_76 (by decide) (by decide) (by decide) rfl ?_
          refine ew_aload_n (M := mX9_would) dX9_would_117 rfl (Or.inr (Or.inl ⟨_, rfl⟩)) ?_
          refine ew_get (M := mX9_would) dX9_would_118 fX9_48 (by repeat (first | with_reducible assumption | refine ex_eq ?_ | refine ex_ne ?_ (by omega) | exact ex_lt (by with_reducible assumption) | rw [List.length_set] | assumption)) (by rfl) ?_
          refine ew_get (M := mX9_would) dX9_would_121 fX9_184 (by repeat (first | with_reducible assumption | refine ex_eq ?_ | refine ex_ne ?_ (by omega) | exact ex_lt (by with_reducible assumption) | rw [List.length_set] | assumption)) (by rfl) ?_
          refine ew_iret (M := mX9_would) dX9_would_124 rfl (by first | rfl | decide) (Nat.le_refl _) (Nat.le_refl _) ?_
          exact ⟨rfl, hc1.sub (fun k hk => Or.inl (by rw [cL_mem]; simp at hk; omega)), hfin⟩
        · rw [cif_n q1]
          by_cases q2 : t = nI 2
          · rw [cif_y q2]
            subst q2
            refine ew_aload_n (M := mX9_would) dX9_would_0 rfl (Or.inr (Or.inl ⟨_, rfl⟩)) ?_
            refine ew_get (M := mX9_would) dX9_would_1 fX9_19 (by repeat (first | with_reducible assumption | refine ex_eq ?_ | refine ex_ne ?_ (by omega) | exact ex_lt (by with_reducible assumption) | rw [List.length_set] | assumption)) (by rfl) ?_
            refine ew_get (M := mX9_would) dX9_would_4 fX9_120 (by repeat (first | with_reducible assumption | refine ex_eq ?_ | refine ex_ne ?_ (by omega) | exact ex_lt (by with_reducible assumption) | rw [List.length_set] | assumption)) (by rfl) ?_
            refine ew_iload_n (M := mX9_would) dX9_would_7 rfl ?_
            refine ew_callV (M := mX9_would) dX9_would_8 vX9_167 (by repeat (first | with_reducible assumption | refine ex_eq ?_ | refine ex_ne ?_ (by omega) | exact ex_lt (by with_reducible assumption) | rw [List.length_set] | assumption)) rfl (sp_numbered b5 hk) rfl (Nat.le_of_ble_eq_true rfl) ⟨Nat.le_refl _, Nat.le_refl _⟩ rfl (fun H8 r8 q8 => ?_)
            obtain ⟨a, rfl, rfl, ha98, hav⟩ := q8
            obtain ⟨v1, v2, v3, v4, v5, v6, v7⟩ := id hav
            refine ew_astore (M := mX9_would) dX9_would_11 (Or.inr ⟨_, rfl⟩) (by decide) rfl ?_
            refine ew_aload (M := mX9_would) dX9_would_13 rfl (Or.inr (Or.inl ⟨_, rfl⟩)) ?_
            refine ew_ifnull (v := some a) (M := mX9_would) (tgt := 33) dX9_would_15 rfl (fun h => by cases h) (fun _ _ => ?_)
            refine ew_aload_n (M := mX9_would) dX9_would_18 rfl (Or.inr (Or.inl ⟨_, rfl⟩)) ?_
            refine ew_get (M := mX9_would) dX9_would_19 fX9_19 (by repeat (first | with_reducible assumption | refine ex_eq ?_ | refine ex_ne ?_ (by omega) | exact ex_lt (by with_reducible assumption) | rw [List.length_set] | assumption)) (by rfl) ?_
            refine ew_get (M := mX9_would) dX9_would_22 fX9_86 (by repeat (first | with_reducible assumption | refine ex_eq ?_ | refine ex_ne ?_ (by omega) | exact ex_lt (by with_reducible assumption) | rw [List.length_set] | assumption)) (by rfl) ?_
            refine ew_iload_n (M := mX9_would) dX9_would_25 rfl ?_
            refine ew_iload_n (M := mX9_would) dX9_would_26 rfl ?_
            refine ew_callV (M := mX9_would) dX9_would_27 vX9_137 (by repeat (first | with_reducible assumption | refine ex_eq ?_ | refine ex_ne ?_ (by omega) | exact ex_lt (by with_reducible assumption) | rw [List.length_set] | assumption)) rfl (sp_has_y b4 hi hj) rfl (Nat.le_of_ble_eq_true rfl) ⟨Nat.le_refl _, Nat.le_refl _⟩ rfl (fun H27 r27 q27 => ?_)
            obtain ⟨rfl, rfl⟩ := q27
            refine ew_if_ne (M := mX9_would) (tgt := 36) dX9_would_30 rfl (fun _ => ?_) (fun h => absurd h (by decide))
            refine ew_iload (M := mX9_would) dX9_would_36 rfl ?_
            refine ew_iconst (M := mX9_would) dX9_would_38 (v := nI 0) (by decide) ?_
            refine ew_iconst (M := mX9_would) dX9_would_39 (v := nI 3) (by decide) ?_
            refine ew_callS (M := mX9_would) dX9_would_40 vX9_66 (sp_within_y (nI_le (Nat.zero_le 2) (by decide)) (nI_le (b := 3) (by decide) (by decide))) rfl (Nat.le_of_ble_eq_true rfl) ⟨Nat.le_refl _, Nat.le_refl _⟩ rfl (fun H40 r40 q40 => ?_)
            obtain ⟨rfl, rfl⟩ := q40
            refine ew_if_ne (M := mX9_would) (tgt := 49) dX9_would_43 rfl (fun _ => ?_) (fun h => absurd h (by decide))
            refine ew_aload_n (M := mX9_would) dX9_would_49 rfl (Or.inr (Or.inl ⟨_, rfl⟩)) ?_
            refine ew_get (M := mX9_would) dX9_would_50 fX9_48 (by repeat (first | with_reducible assumption | refine ex_eq ?_ | refine ex_ne ?_ (by omega) | exact ex_lt (by with_reducible assumption) | rw [List.length_set] | assumption)) (by rfl) ?_
            refine ew_aload_n (M := mX9_would) dX9_would_53 rfl (Or.inr (Or.inl ⟨_, rfl⟩)) ?_
            refine ew_get (M := mX9_would) dX9_would_54 fX9_19 (by repeat (first | with_reducible assumption | refine ex_eq ?_ | refine ex_ne ?_ (by omega) | exact ex_lt (by with_reducible assumption) | rw [List.length_set] | assumption)) (by rfl) ?_
            refine ew_get (M := mX9_would) dX9_would_57 fX9_86 (by repeat (first | with_reducible assumption | refine ex_eq ?_ | refine ex_ne ?_ (by omega) | exact ex_lt (by with_reducible assumption) | rw [List.length_set] | assumption)) (by rfl) ?_
            refine ew_aload (M := mX9_would) dX9_would_60 rfl (Or.inr (Or.inl ⟨_, rfl⟩)) ?_
            refine ew_aload_n (M := mX9_would) dX9_would_62 rfl (Or.inr (Or.inl ⟨_, rfl⟩)) ?_
            refine ew_get (M := mX9_would) dX9_would_63 fX9_19 (by repeat (first | with_reducible assumption | refine ex_eq ?_ | refine ex_ne ?_ (by omega) | exact ex_lt (by with_reducible assumption) | rw [List.length_set] | assumption)) (by rfl) ?_
            refine ew_get (M := mX9_would) dX9_would_66 fX9_129 (by repeat (first | with_reducible assumption | refine ex_eq ?_ | refine ex_ne ?_ (by omega) | exact ex_lt (by with_reducible assumption) | rw [List.length_set] | assumption)) (by rfl) ?_
            refine ew_iload_n (M := mX9_would) dX9_would_69 rfl ?_
            refine ew_iload_n (M := mX9_would) dX9_would_70 rfl ?_
            refine ew_callV (M := mX9_would) dX9_would_71 vX9_174 (by repeat (first | with_reducible assumption | refine ex_eq ?_ | refine ex_ne ?_ (by omega) | exact ex_lt (by with_reducible assumption) | rw [List.length_set] | assumption)) rfl (sp_lookAt a13 b4 hav b2 hi hj (by omega) (by omega)) rfl (Nat.le_of_ble_eq_true rfl) ⟨Nat.le_refl _, Nat.le_refl _⟩ rfl (fun H71 r71 q71 => ?_)
            obtain ⟨rfl, hc1, hw1⟩ := q71
            have hw1 : wi_is H71 77 (cnv S.2.2.1.1 (S.2.2.1.2.1.2 k) S.2.2.1.2.2.1 i j) := hw1
            have a11' := hc1.at a1 (by simp)
            have b11' := hc1.at b1 (by simp)
            have b41' : pis H71 4 S.2.2.1.1 := b4.ch hc1 (by simp) (by simp) (by simp)
            obtain ⟨-, bgs', bms', ⟨bp1', bp2', bp3'⟩, -⟩ := id b41'
            have v11' := hc1.at v1 (by simp <;> omega)
            obtain ⟨w11, co1, fn1, w21, w31, w41⟩ := id hw1
            have hN : bs (cnv S.2.2.1.1 (S.2.2.1.2.1.2 k) S.2.2.1.2.2.1 i j) 0 256 ≤ 90 := cnts_le v2 v3 v7
            have hfin := cl_tmp hS (hc1.sub (by simp)) ⟨_, hw1⟩ (a14.ch hc1 (by simp) (by simp) (by simp)) (a15.ch hc1 (by simp) (by simp) (by simp))
            refine ew_iload (M := mX9_would) dX9_would_74 rfl ?_
            refine ew_tableIn (M := mX9_would) (tgt := 125) (off := 49) dX9_would_76 (by decide) (by decide) (by decide) rfl ?_
            refine ew_aload_n (M := mX9_would) dX9_would_125 rfl (Or.inr (Or.inl ⟨_, rfl⟩)) ?_
            refine ew_get (M := mX9_would) dX9_would_126 fX9_48 (by repeat (first | with_reducible assumption | refine ex_eq ?_ | refine ex_ne ?_ (by omega) | exact ex_lt (by with_reducible assumption) | rw [List.length_set] | assumption)) (by rfl) ?_
            refine ew_aload_n (M := mX9_would) dX9_would_129 rfl (Or.inr (Or.inl ⟨_, rfl⟩)) ?_
            refine ew_get (M := mX9_would) dX9_would_130 fX9_19 (by repeat (first | with_reducible assumption | refine ex_eq ?_ | refine ex_ne ?_ (by omega) | exact ex_lt (by with_reducible assumption) | rw [List.length_set] | assumption)) (by rfl) ?_
            refine ew_get (M := mX9_would) dX9_would_133 fX9_86 (by repeat (first | with_reducible assumption | refine ex_eq ?_ | refine ex_ne ?_ (by omega) | exact ex_lt (by with_reducible assumption) | rw [List.length_set] | assumption)) (by rfl) ?_
            refine ew_iload_n (M := mX9_would) dX9_would_136 rfl ?_
            refine ew_iload_n (M := mX9_would) dX9_would_137 rfl ?_
            refine ew_callV (M := mX9_would) dX9_would_138 vX9_142 (by repeat (first | with_reducible assumption | refine ex_eq ?_ | refine ex_ne ?_ (by omega) | exact ex_lt (by with_reducible assumption) | rw [List.length_set] | assumption)) rfl (sp_greyOf b41' hi hj) rfl (Nat.le_of_ble_eq_true rfl) ⟨Nat.le_refl _, Nat.le_refl _⟩ rfl (fun H138 r138 q138 => ?_)
            obtain ⟨rfl, rfl⟩ := q138
            refine ew_callV (M := mX9_would) dX9_would_141 vX9_187 (by repeat (first | with_reducible assumption | refine ex_eq ?_ | refine ex_ne ?_ (by omega) | exact ex_lt (by with_reducible assumption) | rw [List.length_set] | assumption)) rfl (sp_countedBelow hw1 (bgm _ (pi_lt hi hj)).1) rfl (Nat.le_of_ble_eq_true rfl) ⟨Nat.le_refl _, Nat.le_refl _⟩ rfl (fun H141 r141 q141 => ?_)
            obtain ⟨rfl, rfl⟩ := q141
            refine ew_iret (M := mX9_would) dX9_would_144 rfl (by first | rfl | decide) (Nat.le_refl _) (Nat.le_refl _) ?_
            exact ⟨rfl, hc1.sub (fun k hk => Or.inl (by rw [cL_mem]; simp at hk; omega)), hfin⟩
          · rw [cif_n q2]
            by_cases q3 : t = nI 3
            · rw [cif_y q3]
              subst q3
              by_cases hN0 : bs (cnv S.2.2.1.1 (S.2.2.1.2.1.2 k) S.2.2.1.2.2.1 i j) 0 256 = 0
              · rw [cif_y hN0]
                refine ew_aload_n (M := mX9_would) dX9_would_0 rfl (Or.inr (Or.inl ⟨_, rfl⟩)) ?_
                refine ew_get (M := mX9_would) dX9_would_1 fX9_19 (by repeat (first | with_reducible assumption | refine ex_eq ?_ | refine ex_ne ?_ (by omega) | exact ex_lt (by with_reducible assumption) | rw [List.length_set] | assumption)) (by rfl) ?_
                refine ew_get (M := mX9_would) dX9_would_4 fX9_120 (by repeat (first | with_reducible assumption | refine ex_eq ?_ | refine ex_ne ?_ (by omega) | exact ex_lt (by with_reducible assumption) | rw [List.length_set] | assumption)) (by rfl) ?_
                refine ew_iload_n (M := mX9_would) dX9_would_7 rfl ?_
                refine ew_callV (M := mX9_would) dX9_would_8 vX9_167 (by repeat (first | with_reducible assumption | refine ex_eq ?_ | refine ex_ne ?_ (by omega) | exact ex_lt (by with_reducible assumption) | rw [List.length_set] | assumption)) rfl (sp_numbered b5 hk) rfl (Nat.le_of_ble_eq_true rfl) ⟨Nat.le_refl _, Nat.le_refl _⟩ rfl (fun H8 r8 q8 => ?_)
                obtain ⟨a, rfl, rfl, ha98, hav⟩ := q8
                obtain ⟨v1, v2, v3, v4, v5, v6, v7⟩ := id hav
                refine ew_astore (M := mX9_would) dX9_would_11 (Or.inr ⟨_, rfl⟩) (by decide) rfl ?_
                refine ew_aload (M := mX9_would) dX9_would_13 rfl (Or.inr (Or.inl ⟨_, rfl⟩)) ?_
                refine ew_ifnull (v := some a) (M := mX9_would) (tgt := 33) dX9_would_15 rfl (fun h => by cases h) (fun _ _ => ?_)
                refine ew_aload_n (M := mX9_would) dX9_would_18 rfl (Or.inr (Or.inl ⟨_, rfl⟩)) ?_
                refine ew_get (M := mX9_would) dX9_would_19 fX9_19 (by repeat (first | with_reducible assumption | refine ex_eq ?_ | refine ex_ne ?_ (by omega) | exact ex_lt (by with_reducible assumption) | rw [List.length_set] | assumption)) (by rfl) ?_
                refine ew_get (M := mX9_would) dX9_would_22 fX9_86 (by repeat (first | with_reducible assumption | refine ex_eq ?_ | refine ex_ne ?_ (by omega) | exact ex_lt (by with_reducible assumption) | rw [List.length_set] | assumption)) (by rfl) ?_
                refine ew_iload_n (M := mX9_would) dX9_would_25 rfl ?_
                refine ew_iload_n (M := mX9_would) dX9_would_26 rfl ?_
                refine ew_callV (M := mX9_would) dX9_would_27 vX9_137 (by repeat (first | with_reducible assumption | refine ex_eq ?_ | refine ex_ne ?_ (by omega) | exact ex_lt (by with_reducible assumption) | rw [List.length_set] | assumption)) rfl (sp_has_y b4 hi hj) rfl (Nat.le_of_ble_eq_true rfl) ⟨Nat.le_refl _, Nat.le_refl _⟩ rfl (fun H27 r27 q27 => ?_)
                obtain ⟨rfl, rfl⟩ := q27
                refine ew_if_ne (M := mX9_would) (tgt := 36) dX9_would_30 rfl (fun _ => ?_) (fun h => absurd h (by decide))
                refine ew_iload (M := mX9_would) dX9_would_36 rfl ?_
                refine ew_iconst (M := mX9_would) dX9_would_38 (v := nI 0) (by decide) ?_
                refine ew_iconst (M := mX9_would) dX9_would_39 (v := nI 3) (by decide) ?_
                refine ew_callS (M := mX9_would) dX9_would_40 vX9_66 (sp_within_y (nI_le (Nat.zero_le 3) (by decide)) (nI_le (b := 3) (by decide) (by decide))) rfl (Nat.le_of_ble_eq_true rfl) ⟨Nat.le_refl _, Nat.le_refl _⟩ rfl (fun H40 r40 q40 => ?_)
                obtain ⟨rfl, rfl⟩ := q40
                refine ew_if_ne (M := mX9_would) (tgt := 49) dX9_would_43 rfl (fun _ => ?_) (fun h => absurd h (by decide))
                refine ew_aload_n (M := mX9_would) dX9_would_49 rfl (Or.inr (Or.inl ⟨_, rfl⟩)) ?_
                refine ew_get (M := mX9_would) dX9_would_50 fX9_48 (by repeat (first | with_reducible assumption | refine ex_eq ?_ | refine ex_ne ?_ (by omega) | exact ex_lt (by with_reducible assumption) | rw [List.length_set] | assumption)) (by rfl) ?_
                refine ew_aload_n (M := mX9_would) dX9_would_53 rfl (Or.inr (Or.inl ⟨_, rfl⟩)) ?_
                refine ew_get (M := mX9_would) dX9_would_54 fX9_19 (by repeat (first | with_reducible assumption | refine ex_eq ?_ | refine ex_ne ?_ (by omega) | exact ex_lt (by with_reducible assumption) | rw [List.length_set] | assumption)) (by rfl) ?_
                refine ew_get (M := mX9_would) dX9_would_57 fX9_86 (by repeat (first | with_reducible assumption | refine ex_eq ?_ | refine ex_ne ?_ (by omega) | exact ex_lt (by with_reducible assumption) | rw [List.length_set] | assumption)) (by rfl) ?_
                refine ew_aload (M := mX9_would) dX9_would_60 rfl (Or.inr (Or.inl ⟨_, rfl⟩)) ?_
                refine ew_aload_n (M := mX9_would) dX9_would_62 rfl (Or.inr (Or.inl ⟨_, rfl⟩)) ?_
                refine ew_get (M := mX9_would) dX9_would_63 fX9_19 (by repeat (first | with_reducible assumption | refine ex_eq ?_ | refine ex_ne ?_ (by omega) | exact ex_lt (by with_reducible assumption) | rw [List.length_set] | assumption)) (by rfl) ?_
                refine ew_get (M := mX9_would) dX9_would_66 fX9_129 (by repeat (first | with_reducible assumption | refine ex_eq ?_ | refine ex_ne ?_ (by omega) | exact ex_lt (by with_reducible assumption) | rw [List.length_set] | assumption)) (by rfl) ?_
                refine ew_iload_n (M := mX9_would) dX9_would_69 rfl ?_
                refine ew_iload_n (M := mX9_would) dX9_would_70 rfl ?_
                refine ew_callV (M := mX9_would) dX9_would_71 vX9_174 (by repeat (first | with_reducible assumption | refine ex_eq ?_ | refine ex_ne ?_ (by omega) | exact ex_lt (by with_reducible assumption) | rw [List.length_set] | assumption)) rfl (sp_lookAt a13 b4 hav b2 hi hj (by omega) (by omega)) rfl (Nat.le_of_ble_eq_true rfl) ⟨Nat.le_refl _, Nat.le_refl _⟩ rfl (fun H71 r71 q71 => ?_)
                obtain ⟨rfl, hc1, hw1⟩ := q71
                have hw1 : wi_is H71 77 (cnv S.2.2.1.1 (S.2.2.1.2.1.2 k) S.2.2.1.2.2.1 i j) := hw1
                have a11' := hc1.at a1 (by simp)
                have b11' := hc1.at b1 (by simp)
                have b41' : pis H71 4 S.2.2.1.1 := b4.ch hc1 (by simp) (by simp) (by simp)
                obtain ⟨-, bgs', bms', ⟨bp1', bp2', bp3'⟩, -⟩ := id b41'
                have v11' := hc1.at v1 (by simp <;> omega)
                obtain ⟨w11, co1, fn1, w21, w31, w41⟩ := id hw1
                have hN : bs (cnv S.2.2.1.1 (S.2.2.1.2.1.2 k) S.2.2.1.2.2.1 i j) 0 256 ≤ 90 := cnts_le v2 v3 v7
                have hfin := cl_tmp hS (hc1.sub (by simp)) ⟨_, hw1⟩ (a14.ch hc1 (by simp) (by simp) (by simp)) (a15.ch hc1 (by simp) (by simp) (by simp))
                refine ew_iload (M := mX9_would) dX9_would_74 rfl ?_
                refine ew_tableOut (M := mX9_would) (tgt := 145) dX9_would_76 (by decide) rfl ?_
                refine ew_aload_n (M := mX9_would) dX9_would_145 rfl (Or.inr (Or.inl ⟨_, rfl⟩)) ?_
                refine ew_get (M := mX9_would) dX9_would_146 fX9_48 (by repeat (first | with_reducible assumption | refine ex_eq ?_ | refine ex_ne ?_ (by omega) | exact ex_lt (by with_reducible assumption) | rw [List.length_set] | assumption)) (by rfl) ?_
                refine ew_callV (M := mX9_would) dX9_would_149 vX9_190 (by repeat (first | with_reducible assumption | refine ex_eq ?_ | refine ex_ne ?_ (by omega) | exact ex_lt (by with_reducible assumption) | rw [List.length_set] | assumption)) rfl (sp_spread0 hw1 hN0) rfl (Nat.le_of_ble_eq_true rfl) ⟨Nat.le_refl _, Nat.le_refl _⟩ rfl (fun H149 r149 q149 => ?_)
                obtain ⟨rfl, rfl⟩ := q149
                refine ew_iret (M := mX9_would) dX9_would_152 rfl (by first | rfl | decide) (Nat.le_refl _) (Nat.le_refl _) ?_
                exact ⟨rfl, hc1.sub (fun k hk => Or.inl (by rw [cL_mem]; simp at hk; omega)), hfin⟩
              · rw [cif_n hN0]
                refine ew_aload_n (M := mX9_would) dX9_would_0 rfl (Or.inr (Or.inl ⟨_, rfl⟩)) ?_
                refine ew_get (M := mX9_would) dX9_would_1 fX9_19 (by repeat (first | with_reducible assumption | refine ex_eq ?_ | refine ex_ne ?_ (by omega) | exact ex_lt (by with_reducible assumption) | rw [List.length_set] | assumption)) (by rfl) ?_
                refine ew_get (M := mX9_would) dX9_would_4 fX9_120 (by repeat (first | with_reducible assumption | refine ex_eq ?_ | refine ex_ne ?_ (by omega) | exact ex_lt (by with_reducible assumption) | rw [List.length_set] | assumption)) (by rfl) ?_
                refine ew_iload_n (M := mX9_would) dX9_would_7 rfl ?_
                refine ew_callV (M := mX9_would) dX9_would_8 vX9_167 (by repeat (first | with_reducible assumption | refine ex_eq ?_ | refine ex_ne ?_ (by omega) | exact ex_lt (by with_reducible assumption) | rw [List.length_set] | assumption)) rfl (sp_numbered b5 hk) rfl (Nat.le_of_ble_eq_true rfl) ⟨Nat.le_refl _, Nat.le_refl _⟩ rfl (fun H8 r8 q8 => ?_)
                obtain ⟨a, rfl, rfl, ha98, hav⟩ := q8
                obtain ⟨v1, v2, v3, v4, v5, v6, v7⟩ := id hav
                refine ew_astore (M := mX9_would) dX9_would_11 (Or.inr ⟨_, rfl⟩) (by decide) rfl ?_
                refine ew_aload (M := mX9_would) dX9_would_13 rfl (Or.inr (Or.inl ⟨_, rfl⟩)) ?_
                refine ew_ifnull (v := some a) (M := mX9_would) (tgt := 33) dX9_would_15 rfl (fun h => by cases h) (fun _ _ => ?_)
                refine ew_aload_n (M := mX9_would) dX9_would_18 rfl (Or.inr (Or.inl ⟨_, rfl⟩)) ?_
                refine ew_get (M := mX9_would) dX9_would_19 fX9_19 (by repeat (first | with_reducible assumption | refine ex_eq ?_ | refine ex_ne ?_ (by omega) | exact ex_lt (by with_reducible assumption) | rw [List.length_set] | assumption)) (by rfl) ?_
                refine ew_get (M := mX9_would) dX9_would_22 fX9_86 (by repeat (first | with_reducible assumption | refine ex_eq ?_ | refine ex_ne ?_ (by omega) | exact ex_lt (by with_reducible assumption) | rw [List.length_set] | assumption)) (by rfl) ?_
                refine ew_iload_n (M := mX9_would) dX9_would_25 rfl ?_
                refine ew_iload_n (M := mX9_would) dX9_would_26 rfl ?_
                refine ew_callV (M := mX9_would) dX9_would_27 vX9_137 (by repeat (first | with_reducible assumption | refine ex_eq ?_ | refine ex_ne ?_ (by omega) | exact ex_lt (by with_reducible assumption) | rw [List.length_set] | assumption)) rfl (sp_has_y b4 hi hj) rfl (Nat.le_of_ble_eq_true rfl) ⟨Nat.le_refl _, Nat.le_refl _⟩ rfl (fun H27 r27 q27 => ?_)
                obtain ⟨rfl, rfl⟩ := q27
                refine ew_if_ne (M := mX9_would) (tgt := 36) dX9_would_30 rfl (fun _ => ?_) (fun h => absurd h (by decide))
                refine ew_iload (M := mX9_would) dX9_would_36 rfl ?_
                refine ew_iconst (M := mX9_would) dX9_would_38 (v := nI 0) (by decide) ?_
                refine ew_iconst (M := mX9_would) dX9_would_39 (v := nI 3) (by decide) ?_
                refine ew_callS (M := mX9_would) dX9_would_40 vX9_66 (sp_within_y (nI_le (Nat.zero_le 3) (by decide)) (nI_le (b := 3) (by decide) (by decide))) rfl (Nat.le_of_ble_eq_true rfl) ⟨Nat.le_refl _, Nat.le_refl _⟩ rfl (fun H40 r40 q40 => ?_)
                obtain ⟨rfl, rfl⟩ := q40
                refine ew_if_ne (M := mX9_would) (tgt := 49) dX9_would_43 rfl (fun _ => ?_) (fun h => absurd h (by decide))
                refine ew_aload_n (M := mX9_would) dX9_would_49 rfl (Or.inr (Or.inl ⟨_, rfl⟩)) ?_
                refine ew_get (M := mX9_would) dX9_would_50 fX9_48 (by repeat (first | with_reducible assumption | refine ex_eq ?_ | refine ex_ne ?_ (by omega) | exact ex_lt (by with_reducible assumption) | rw [List.length_set] | assumption)) (by rfl) ?_
                refine ew_aload_n (M := mX9_would) dX9_would_53 rfl (Or.inr (Or.inl ⟨_, rfl⟩)) ?_
                refine ew_get (M := mX9_would) dX9_would_54 fX9_19 (by repeat (first | with_reducible assumption | refine ex_eq ?_ | refine ex_ne ?_ (by omega) | exact ex_lt (by with_reducible assumption) | rw [List.length_set] | assumption)) (by rfl) ?_
                refine ew_get (M := mX9_would) dX9_would_57 fX9_86 (by repeat (first | with_reducible assumption | refine ex_eq ?_ | refine ex_ne ?_ (by omega) | exact ex_lt (by with_reducible assumption) | rw [List.length_set] | assumption)) (by rfl) ?_
                refine ew_aload (M := mX9_would) dX9_would_60 rfl (Or.inr (Or.inl ⟨_, rfl⟩)) ?_
                refine ew_aload_n (M := mX9_would) dX9_would_62 rfl (Or.inr (Or.inl ⟨_, rfl⟩)) ?_
                refine ew_get (M := mX9_would) dX9_would_63 fX9_19 (by repeat (first | with_reducible assumption | refine ex_eq ?_ | refine ex_ne ?_ (by omega) | exact ex_lt (by with_reducible assumption) | rw [List.length_set] | assumption)) (by rfl) ?_
                refine ew_get (M := mX9_would) dX9_would_66 fX9_129 (by repeat (first | with_reducible assumption | refine ex_eq ?_ | refine ex_ne ?_ (by omega) | exact ex_lt (by with_reducible assumption) | rw [List.length_set] | assumption)) (by rfl) ?_
                refine ew_iload_n (M := mX9_would) dX9_would_69 rfl ?_
                refine ew_iload_n (M := mX9_would) dX9_would_70 rfl ?_
                refine ew_callV (M := mX9_would) dX9_would_71 vX9_174 (by repeat (first | with_reducible assumption | refine ex_eq ?_ | refine ex_ne ?_ (by omega) | exact ex_lt (by with_reducible assumption) | rw [List.length_set] | assumption)) rfl (sp_lookAt a13 b4 hav b2 hi hj (by omega) (by omega)) rfl (Nat.le_of_ble_eq_true rfl) ⟨Nat.le_refl _, Nat.le_refl _⟩ rfl (fun H71 r71 q71 => ?_)
                obtain ⟨rfl, hc1, hw1⟩ := q71
                have hw1 : wi_is H71 77 (cnv S.2.2.1.1 (S.2.2.1.2.1.2 k) S.2.2.1.2.2.1 i j) := hw1
                have a11' := hc1.at a1 (by simp)
                have b11' := hc1.at b1 (by simp)
                have b41' : pis H71 4 S.2.2.1.1 := b4.ch hc1 (by simp) (by simp) (by simp)
                obtain ⟨-, bgs', bms', ⟨bp1', bp2', bp3'⟩, -⟩ := id b41'
                have v11' := hc1.at v1 (by simp <;> omega)
                obtain ⟨w11, co1, fn1, w21, w31, w41⟩ := id hw1
                have hN : bs (cnv S.2.2.1.1 (S.2.2.1.2.1.2 k) S.2.2.1.2.2.1 i j) 0 256 ≤ 90 := cnts_le v2 v3 v7
                have hfin := cl_tmp hS (hc1.sub (by simp)) ⟨_, hw1⟩ (a14.ch hc1 (by simp) (by simp) (by simp)) (a15.ch hc1 (by simp) (by simp) (by simp))
                refine ew_iload (M := mX9_would) dX9_would_74 rfl ?_
                refine ew_tableOut (M := mX9_would) (tgt := 145) dX9_would_76 (by decide) rfl ?_
                refine ew_aload_n (M := mX9_would) dX9_would_145 rfl (Or.inr (Or.inl ⟨_, rfl⟩)) ?_
                refine ew_get (M := mX9_would) dX9_would_146 fX9_48 (by repeat (first | with_reducible assumption | refine ex_eq ?_ | refine ex_ne ?_ (by omega) | exact ex_lt (by with_reducible assumption) | rw [List.length_set] | assumption)) (by rfl) ?_
                refine ew_callV (M := mX9_would) dX9_would_149 vX9_190 (by repeat (first | with_reducible assumption | refine ex_eq ?_ | refine ex_ne ?_ (by omega) | exact ex_lt (by with_reducible assumption) | rw [List.length_set] | assumption)) rfl (sp_spread hw1 (by omega) (by omega)) rfl (Nat.le_of_ble_eq_true rfl) ⟨Nat.le_refl _, Nat.le_refl _⟩ rfl (fun H149 r149 q149 => ?_)
                obtain ⟨rfl, rfl⟩ := q149
                refine ew_iret (M := mX9_would) dX9_would_152 rfl (by first | rfl | decide) (Nat.le_refl _) (Nat.le_refl _) ?_
                exact ⟨rfl, hc1.sub (fun k hk => Or.inl (by rw [cL_mem]; simp at hk; omega)), hfin⟩
            · rw [cif_n q3]
              have hout : ¬ (nI 0 ≤ t ∧ t ≤ nI 3) := fun q => by
                obtain ⟨z, hz, rfl⟩ := nI_of3 (by decide) q
                rcases (show z = 0 ∨ z = 1 ∨ z = 2 ∨ z = 3 by omega) with rfl | rfl | rfl | rfl <;> contradiction
              refine ew_aload_n (M := mX9_would) dX9_would_0 rfl (Or.inr (Or.inl ⟨_, rfl⟩)) ?_
              refine ew_get (M := mX9_would) dX9_would_1 fX9_19 (by repeat (first | with_reducible assumption | refine ex_eq ?_ | refine ex_ne ?_ (by omega) | exact ex_lt (by with_reducible assumption) | rw [List.length_set] | assumption)) (by rfl) ?_
              refine ew_get (M := mX9_would) dX9_would_4 fX9_120 (by repeat (first | with_reducible assumption | refine ex_eq ?_ | refine ex_ne ?_ (by omega) | exact ex_lt (by with_reducible assumption) | rw [List.length_set] | assumption)) (by rfl) ?_
              refine ew_iload_n (M := mX9_would) dX9_would_7 rfl ?_
              refine ew_callV (M := mX9_would) dX9_would_8 vX9_167 (by repeat (first | with_reducible assumption | refine ex_eq ?_ | refine ex_ne ?_ (by omega) | exact ex_lt (by with_reducible assumption) | rw [List.length_set] | assumption)) rfl (sp_numbered b5 hk) rfl (Nat.le_of_ble_eq_true rfl) ⟨Nat.le_refl _, Nat.le_refl _⟩ rfl (fun H8 r8 q8 => ?_)
              obtain ⟨a, rfl, rfl, ha98, hav⟩ := q8
              obtain ⟨v1, v2, v3, v4, v5, v6, v7⟩ := id hav
              refine ew_astore (M := mX9_would) dX9_would_11 (Or.inr ⟨_, rfl⟩) (by decide) rfl ?_
              refine ew_aload (M := mX9_would) dX9_would_13 rfl (Or.inr (Or.inl ⟨_, rfl⟩)) ?_
              refine ew_ifnull (v := some a) (M := mX9_would) (tgt := 33) dX9_would_15 rfl (fun h => by cases h) (fun _ _ => ?_)
              refine ew_aload_n (M := mX9_would) dX9_would_18 rfl (Or.inr (Or.inl ⟨_, rfl⟩)) ?_
              refine ew_get (M := mX9_would) dX9_would_19 fX9_19 (by repeat (first | with_reducible assumption | refine ex_eq ?_ | refine ex_ne ?_ (by omega) | exact ex_lt (by with_reducible assumption) | rw [List.length_set] | assumption)) (by rfl) ?_
              refine ew_get (M := mX9_would) dX9_would_22 fX9_86 (by repeat (first | with_reducible assumption | refine ex_eq ?_ | refine ex_ne ?_ (by omega) | exact ex_lt (by with_reducible assumption) | rw [List.length_set] | assumption)) (by rfl) ?_
              refine ew_iload_n (M := mX9_would) dX9_would_25 rfl ?_
              refine ew_iload_n (M := mX9_would) dX9_would_26 rfl ?_
              refine ew_callV (M := mX9_would) dX9_would_27 vX9_137 (by repeat (first | with_reducible assumption | refine ex_eq ?_ | refine ex_ne ?_ (by omega) | exact ex_lt (by with_reducible assumption) | rw [List.length_set] | assumption)) rfl (sp_has_y b4 hi hj) rfl (Nat.le_of_ble_eq_true rfl) ⟨Nat.le_refl _, Nat.le_refl _⟩ rfl (fun H27 r27 q27 => ?_)
              obtain ⟨rfl, rfl⟩ := q27
              refine ew_if_ne (M := mX9_would) (tgt := 36) dX9_would_30 rfl (fun _ => ?_) (fun h => absurd h (by decide))
              refine ew_iload (M := mX9_would) dX9_would_36 rfl ?_
              refine ew_iconst (M := mX9_would) dX9_would_38 (v := nI 0) (by decide) ?_
              refine ew_iconst (M := mX9_would) dX9_would_39 (v := nI 3) (by decide) ?_
              refine ew_callS (M := mX9_would) dX9_would_40 vX9_66 (sp_within_n hout) rfl (Nat.le_of_ble_eq_true rfl) ⟨Nat.le_refl _, Nat.le_refl _⟩ rfl (fun H40 r40 q40 => ?_)
              obtain ⟨rfl, rfl⟩ := q40
              refine ew_if_ne (M := mX9_would) (tgt := 49) dX9_would_43 rfl (fun h => absurd rfl h) (fun _ => ?_)
              refine ew_ldc (M := mX9_would) dX9_would_46 kX9_70 ?_
              refine ew_iret (M := mX9_would) dX9_would_48 rfl (by first | rfl | decide) (Nat.le_refl _) (Nat.le_refl _) ?_
              exact ⟨rfl, ex_ch.rf, hS⟩
    · rw [cif_n (fun q => hin q.2)]
      refine ew_aload_n (M := mX9_would) dX9_would_0 rfl (Or.inr (Or.inl ⟨_, rfl⟩)) ?_
      refine ew_get (M := mX9_would) dX9_would_1 fX9_19 (by repeat (first | with_reducible assumption | refine ex_eq ?_ | refine ex_ne ?_ (by omega) | exact ex_lt (by with_reducible assumption) | rw [List.length_set] | assumption)) (by rfl) ?_
      refine ew_get (M := mX9_would) dX9_would_4 fX9_120 (by repeat (first | with_reducible assumption | refine ex_eq ?_ | refine ex_ne ?_ (by omega) | exact ex_lt (by with_reducible assumption) | rw [List.length_set] | assumption)) (by rfl) ?_
      refine ew_iload_n (M := mX9_would) dX9_would_7 rfl ?_
      refine ew_callV (M := mX9_would) dX9_would_8 vX9_167 (by repeat (first | with_reducible assumption | refine ex_eq ?_ | refine ex_ne ?_ (by omega) | exact ex_lt (by with_reducible assumption) | rw [List.length_set] | assumption)) rfl (sp_numbered b5 hk) rfl (Nat.le_of_ble_eq_true rfl) ⟨Nat.le_refl _, Nat.le_refl _⟩ rfl (fun H8 r8 q8 => ?_)
      obtain ⟨a, rfl, rfl, ha98, hav⟩ := q8
      obtain ⟨v1, v2, v3, v4, v5, v6, v7⟩ := id hav
      refine ew_astore (M := mX9_would) dX9_would_11 (Or.inr ⟨_, rfl⟩) (by decide) rfl ?_
      refine ew_aload (M := mX9_would) dX9_would_13 rfl (Or.inr (Or.inl ⟨_, rfl⟩)) ?_
      refine ew_ifnull (v := some a) (M := mX9_would) (tgt := 33) dX9_would_15 rfl (fun h => by cases h) (fun _ _ => ?_)
      refine ew_aload_n (M := mX9_would) dX9_would_18 rfl (Or.inr (Or.inl ⟨_, rfl⟩)) ?_
      refine ew_get (M := mX9_would) dX9_would_19 fX9_19 (by repeat (first | with_reducible assumption | refine ex_eq ?_ | refine ex_ne ?_ (by omega) | exact ex_lt (by with_reducible assumption) | rw [List.length_set] | assumption)) (by rfl) ?_
      refine ew_get (M := mX9_would) dX9_would_22 fX9_86 (by repeat (first | with_reducible assumption | refine ex_eq ?_ | refine ex_ne ?_ (by omega) | exact ex_lt (by with_reducible assumption) | rw [List.length_set] | assumption)) (by rfl) ?_
      refine ew_iload_n (M := mX9_would) dX9_would_25 rfl ?_
      refine ew_iload_n (M := mX9_would) dX9_would_26 rfl ?_
      refine ew_callV (M := mX9_would) dX9_would_27 vX9_137 (by repeat (first | with_reducible assumption | refine ex_eq ?_ | refine ex_ne ?_ (by omega) | exact ex_lt (by with_reducible assumption) | rw [List.length_set] | assumption)) rfl (sp_has_n b4 hin) rfl (Nat.le_of_ble_eq_true rfl) ⟨Nat.le_refl _, Nat.le_refl _⟩ rfl (fun H27 r27 q27 => ?_)
      obtain ⟨rfl, rfl⟩ := q27
      refine ew_if_ne (M := mX9_would) (tgt := 36) dX9_would_30 rfl (fun h => absurd rfl h) (fun _ => ?_)
      refine ew_ldc (M := mX9_would) dX9_would_33 kX9_141 ?_
      refine ew_iret (M := mX9_would) dX9_would_35 rfl (by first | rfl | decide) (Nat.le_refl _) (Nat.le_refl _) ?_
      exact ⟨rfl, ex_ch.rf, hS⟩
  · rw [cif_n (fun q => hx q.1)]
    refine ew_aload_n (M := mX9_would) dX9_would_0 rfl (Or.inr (Or.inl ⟨_, rfl⟩)) ?_
    refine ew_get (M := mX9_would) dX9_would_1 fX9_19 (by repeat (first | with_reducible assumption | refine ex_eq ?_ | refine ex_ne ?_ (by omega) | exact ex_lt (by with_reducible assumption) | rw [List.length_set] | assumption)) (by rfl) ?_
    refine ew_get (M := mX9_would) dX9_would_4 fX9_120 (by repeat (first | with_reducible assumption | refine ex_eq ?_ | refine ex_ne ?_ (by omega) | exact ex_lt (by with_reducible assumption) | rw [List.length_set] | assumption)) (by rfl) ?_
    refine ew_iload_n (M := mX9_would) dX9_would_7 rfl ?_
    refine ew_callV (M := mX9_would) dX9_would_8 vX9_167 (by repeat (first | with_reducible assumption | refine ex_eq ?_ | refine ex_ne ?_ (by omega) | exact ex_lt (by with_reducible assumption) | rw [List.length_set] | assumption)) rfl (sp_numbered_n b5 hx) rfl (Nat.le_of_ble_eq_true rfl) ⟨Nat.le_refl _, Nat.le_refl _⟩ rfl (fun H8 r8 q8 => ?_)
    obtain ⟨rfl, rfl⟩ := q8
    refine ew_astore (M := mX9_would) dX9_would_11 (Or.inl rfl) (by decide) rfl ?_
    refine ew_aload (M := mX9_would) dX9_would_13 rfl (Or.inl rfl) ?_
    refine ew_ifnull (v := none) (M := mX9_would) (tgt := 33) dX9_would_15 rfl (fun _ => ?_) (fun _ h => by cases h)
    refine ew_ldc (M := mX9_would) dX9_would_33 kX9_141 ?_
    refine ew_iret (M := mX9_would) dX9_would_35 rfl (by first | rfl | decide) (Nat.le_refl _) (Nat.le_refl _) ?_
    exact ⟨rfl, ex_ch.rf, hS⟩
noncomputable def pm_bins (P : PT) (v : FV) (fi : Nat) : Nat := fl (fun j n => fl (fun i n => if P.2.2.2 (j * P.1 + i) = 0 then n + (lsV P v fi i j / 16 + lsV P v fi i j % 16 + 2) else n) P.1 n) P.2.1 0
noncomputable def f_bins (S : SS) (f : Int32) : Int32 × SS := (cif (fin S.2.2.1.2.1.1 f) (nI (pm_bins S.2.2.1.1 (S.2.2.1.2.1.2 f.toNatClampNeg) S.2.2.1.2.2.1)) (-1000000001), S)
theorem cs_bins {d : Nat} {H : ex_H} {S : SS} (hS : cl_is H S) (f : Int32) : ex_Met mX9_bins (d + 5) 0 0 H [.ref 0, .int f] (fun H' r => r = some (.int (f_bins S f).1) ∧ ex_ch H H' cL ∧ cl_is H' (f_bins S f).2) := by
  obtain ⟨a1, ⟨pl, a2⟩, a3, ⟨fa, a4, a5, a6⟩, a7, a8, ⟨fk, a9, a10⟩, a11, a12, ⟨cw, a13⟩, a14, a15⟩ := id hS
  obtain ⟨b1, b2, b3, b4, b5⟩ := id a3
  obtain ⟨⟨bz, bgm⟩, bgs, bms, ⟨bp1, bp2, bp3⟩, bct⟩ := id b4
  obtain ⟨bz1, bz2, bz3, bz4⟩ := id bz
  obtain ⟨b51, b52, b53⟩ := id b5
  obtain ⟨w1, co, fn, w2, w3, w4⟩ := id a13
  refine ex_meth [(0, .ref 0), (1, .int f)] rfl rfl rfl (fun b => Nat.le_of_ble_eq_true rfl) ?_
  unfold f_bins
  by_cases hx : fin S.2.2.1.2.1.1 f
  · rw [cif_y hx]
    obtain ⟨k, hk, rfl⟩ := id hx
    rw [nI_clamp (show k < 2 ^ 31 by omega)]
    refine ew_aload_n (M := mX9_bins) dX9_bins_0 rfl (Or.inr (Or.inl ⟨_, rfl⟩)) ?_
    refine ew_get (M := mX9_bins) dX9_bins_1 fX9_19 (by repeat (first | with_reducible assumption | refine ex_eq ?_ | refine ex_ne ?_ (by omega) | exact ex_lt (by with_reducible assumption) | rw [List.length_set] | assumption)) (by rfl) ?_
    refine ew_get (M := mX9_bins) dX9_bins_4 fX9_120 (by repeat (first | with_reducible assumption | refine ex_eq ?_ | refine ex_ne ?_ (by omega) | exact ex_lt (by with_reducible assumption) | rw [List.length_set] | assumption)) (by rfl) ?_
    refine ew_iload_n (M := mX9_bins) dX9_bins_7 rfl ?_
    refine ew_callV (M := mX9_bins) dX9_bins_8 vX9_167 (by repeat (first | with_reducible assumption | refine ex_eq ?_ | refine ex_ne ?_ (by omega) | exact ex_lt (by with_reducible assumption) | rw [List.length_set] | assumption)) rfl (sp_numbered b5 hk) rfl (Nat.le_of_ble_eq_true rfl) ⟨Nat.le_refl _, Nat.le_refl _⟩ rfl (fun H8 r8 q8 => ?_)
    obtain ⟨a, rfl, rfl, ha98, hav⟩ := q8
    obtain ⟨v1, v2, v3, v4, v5, v6, v7⟩ := id hav
    refine ew_astore_n (M := mX9_bins) dX9_bins_11 (Or.inr ⟨_, rfl⟩) (by decide) rfl ?_
    refine ew_aload_n (M := mX9_bins) dX9_bins_12 rfl (Or.inr (Or.inl ⟨_, rfl⟩)) ?_
    refine ew_ifnonnull (v := some a) (M := mX9_bins) (tgt := 19) dX9_bins_13 rfl (fun _ _ => ?_) (fun h => by cases h)
    refine ew_iconst (M := mX9_bins) dX9_bins_19 (v := nI 0) (by decide) ?_
    refine ew_istore_n (M := mX9_bins) dX9_bins_20 (by decide) rfl ?_
    refine ew_iconst (M := mX9_bins) dX9_bins_21 (v := nI 0) (by decide) ?_
    refine ew_istore (M := mX9_bins) dX9_bins_22 (by decide) rfl ?_
    refine ew_ls [(0, .ref 0), (2, .ref a), (3, .int (nI 0)), (4, .int (nI 0))] ⟨rfl, rfl, rfl, rfl, trivial⟩ ?_
    refine fl_down (F := fun j n => fl (fun i n => if S.2.2.1.1.2.2.2 (j * S.2.2.1.1.1 + i) = 0 then n + (lsV S.2.2.1.1 (S.2.2.1.2.1.2 k) S.2.2.1.2.2.1 i j / 16 + lsV S.2.2.1.1 (S.2.2.1.2.1.2 k) S.2.2.1.2.2.1 i j % 16 + 2) else n) S.2.2.1.1.1 n) (P := fun j n => ∀ H2 : ex_H, ex_ch H H2 [77, 78, 79] → (∃ c, wi_is H2 77 c) → ex_W mX9_bins (d + 5) 0 0 (fun H' r => r = some (.int (nI (pm_bins S.2.2.1.1 (S.2.2.1.2.1.2 k) S.2.2.1.2.2.1))) ∧ ex_ch H H' cL ∧ cl_is H' S) H2 24 [(0, .ref 0), (2, .ref a), (3, .int (nI n)), (4, .int (nI j))] [] 0 0) S.2.2.1.1.2.1 0 (fun j n hj _ kk => ?_) ?_ H ex_ch.rf ⟨cw, a13⟩
    · intro H2 hc2 hw2
      obtain ⟨cw2, hw2⟩ := hw2
      have a12 := hc2.at a1 (by simp)
      have b12 := hc2.at b1 (by simp)
      have hp9 : pis H2 4 S.2.2.1.1 := b4.ch hc2 (by simp) (by simp) (by simp)
      obtain ⟨-, gs9, ms9, ⟨hp91, hp92, hp93⟩, -⟩ := id hp9
      have v12 := fiv.ch hc2 hav (by simp <;> omega)
      refine ew_iload (M := mX9_bins) dX9_bins_24 rfl ?_
      refine ew_aload_n (M := mX9_bins) dX9_bins_26 rfl (Or.inr (Or.inl ⟨_, rfl⟩)) ?_
      refine ew_get (M := mX9_bins) dX9_bins_27 fX9_19 (by repeat (first | with_reducible assumption | refine ex_eq ?_ | refine ex_ne ?_ (by omega) | exact ex_lt (by with_reducible assumption) | rw [List.length_set] | assumption)) (by rfl) ?_
      refine ew_get (M := mX9_bins) dX9_bins_30 fX9_86 (by repeat (first | with_reducible assumption | refine ex_eq ?_ | refine ex_ne ?_ (by omega) | exact ex_lt (by with_reducible assumption) | rw [List.length_set] | assumption)) (by rfl) ?_
      refine ew_get (M := mX9_bins) dX9_bins_33 fX9_102 (by repeat (first | with_reducible assumption | refine ex_eq ?_ | refine ex_ne ?_ (by omega) | exact ex_lt (by with_reducible assumption) | rw [List.length_set] | assumption)) (by rfl) ?_
      refine ew_icmp_ge (M := mX9_bins) (tgt := 113) dX9_bins_36 rfl (fun h => absurd h (nI_ge hj (by omega))) (fun _ => ?_)
      refine ew_iconst (M := mX9_bins) dX9_bins_39 (v := nI 0) (by decide) ?_
      refine ew_istore (M := mX9_bins) dX9_bins_40 (by decide) rfl ?_
      refine ew_ls [(0, .ref 0), (2, .ref a), (3, .int (nI n)), (4, .int (nI j)), (5, .int (nI 0))] ⟨rfl, rfl, rfl, rfl, rfl, trivial⟩ ?_
      refine fl_down (F := (fun i n => if S.2.2.1.1.2.2.2 (j * S.2.2.1.1.1 + i) = 0 then n + (lsV S.2.2.1.1 (S.2.2.1.2.1.2 k) S.2.2.1.2.2.1 i j / 16 + lsV S.2.2.1.1 (S.2.2.1.2.1.2 k) S.2.2.1.2.2.1 i j % 16 + 2) else n)) (P := fun i n => ∀ H2 : ex_H, ex_ch H H2 [77, 78, 79] → (∃ c, wi_is H2 77 c) → ex_W mX9_bins (d + 5) 0 0 (fun H' r => r = some (.int (nI (pm_bins S.2.2.1.1 (S.2.2.1.2.1.2 k) S.2.2.1.2.2.1))) ∧ ex_ch H H' cL ∧ cl_is H' S) H2 42 [(0, .ref 0), (2, .ref a), (3, .int (nI n)), (4, .int (nI j)), (5, .int (nI i))] [] 0 0) S.2.2.1.1.1 n (fun i n hi _ kk => ?_) ?_ H2 hc2 ⟨cw2, hw2⟩
      · intro H2 hc2 hw2
        obtain ⟨cw2, hw2⟩ := hw2
        have a12 := hc2.at a1 (by simp)
        have b12 := hc2.at b1 (by simp)
        have hp9 : pis H2 4 S.2.2.1.1 := b4.ch hc2 (by simp) (by simp) (by simp)
        obtain ⟨-, gs9, ms9, ⟨hp91, hp92, hp93⟩, -⟩ := id hp9
        have v12 := fiv.ch hc2 hav (by simp <;> omega)
        have hkk := pi_lt hi hj
        have hg1 := bgm _ hkk
        have hpos : S.2.2.1.1.2.2.2 (j * S.2.2.1.1.1 + i) = 0 → 1 ≤ lsN S.2.2.1.1 (S.2.2.1.2.1.2 k) S.2.2.1.2.2.1 i j := fun e => cnts_pos hi hj hg1.1 e
        have hV : S.2.2.1.1.2.2.2 (j * S.2.2.1.1.1 + i) = 0 → lsV S.2.2.1.1 (S.2.2.1.2.1.2 k) S.2.2.1.2.2.1 i j < 256 := fun e => lsV_lt v4 (hpos e)
        have hae : S.2.2.1.1.2.2.2 (j * S.2.2.1.1.1 + i) = 0 → lsI S.2.2.1.1 (S.2.2.1.2.1.2 k) S.2.2.1.2.2.1 i j = nI (lsV S.2.2.1.1 (S.2.2.1.2.1.2 k) S.2.2.1.2.2.1 i j) := fun e => by
          unfold lsI
          exact if_neg (by have := hpos e; omega)
        refine ew_iload (M := mX9_bins) dX9_bins_42 rfl ?_
        refine ew_aload_n (M := mX9_bins) dX9_bins_44 rfl (Or.inr (Or.inl ⟨_, rfl⟩)) ?_
        refine ew_get (M := mX9_bins) dX9_bins_45 fX9_19 (by repeat (first | with_reducible assumption | refine ex_eq ?_ | refine ex_ne ?_ (by omega) | exact ex_lt (by with_reducible assumption) | rw [List.length_set] | assumption)) (by rfl) ?_
        refine ew_get (M := mX9_bins) dX9_bins_48 fX9_86 (by repeat (first | with_reducible assumption | refine ex_eq ?_ | refine ex_ne ?_ (by omega) | exact ex_lt (by with_reducible assumption) | rw [List.length_set] | assumption)) (by rfl) ?_
        refine ew_get (M := mX9_bins) dX9_bins_51 fX9_99 (by repeat (first | with_reducible assumption | refine ex_eq ?_ | refine ex_ne ?_ (by omega) | exact ex_lt (by with_reducible assumption) | rw [List.length_set] | assumption)) (by rfl) ?_
        refine ew_icmp_ge (M := mX9_bins) (tgt := 107) dX9_bins_54 rfl (fun h => absurd h (nI_ge hi (by omega))) (fun _ => ?_)
        refine ew_aload_n (M := mX9_bins) dX9_bins_57 rfl (Or.inr (Or.inl ⟨_, rfl⟩)) ?_
        refine ew_get (M := mX9_bins) dX9_bins_58 fX9_19 (by repeat (first | with_reducible assumption | refine ex_eq ?_ | refine ex_ne ?_ (by omega) | exact ex_lt (by with_reducible assumption) | rw [List.length_set] | assumption)) (by rfl) ?_
        refine ew_get (M := mX9_bins) dX9_bins_61 fX9_86 (by repeat (first | with_reducible assumption | refine ex_eq ?_ | refine ex_ne ?_ (by omega) | exact ex_lt (by with_reducible assumption) | rw [List.length_set] | assumption)) (by rfl) ?_
        refine ew_iload (M := mX9_bins) dX9_bins_64 rfl ?_
        refine ew_iload (M := mX9_bins) dX9_bins_66 rfl ?_
        refine ew_callV (M := mX9_bins) dX9_bins_68 vX9_146 (by repeat (first | with_reducible assumption | refine ex_eq ?_ | refine ex_ne ?_ (by omega) | exact ex_lt (by with_reducible assumption) | rw [List.length_set] | assumption)) rfl (sp_isMasked hp9 hi hj) rfl (Nat.le_of_ble_eq_true rfl) ⟨Nat.le_refl _, Nat.le_refl _⟩ rfl (fun H68 r68 q68 => ?_)
        obtain ⟨rfl, rfl⟩ := q68
        refine ew_if_ne (M := mX9_bins) (tgt := 101) dX9_bins_71 rfl (fun c71 => ?_) (fun c71 => ?_)
        · rw [nI_z (by omega)] at c71
          refine ew_iinc (M := mX9_bins) dX9_bins_101 rfl (ex_inc i) (by decide) rfl ?_
          refine ew_goto (M := mX9_bins) (tgt := 42) dX9_bins_104 rfl ?_
          simp only [c71, ↓reduceIte] at kk
          first
            | (refine ew_ls _ ?_ (kk _ (hc2.tr hc3 (by simp)) ⟨_, hw3⟩); exact ⟨rfl, rfl, rfl, rfl, rfl, trivial⟩)
            | (refine ew_ls _ ?_ (kk _ hc2 ⟨_, hw2⟩); exact ⟨rfl, rfl, rfl, rfl, rfl, trivial⟩)
        · rw [nI_z (by omega)] at c71
          refine ew_aload_n (M := mX9_bins) dX9_bins_74 rfl (Or.inr (Or.inl ⟨_, rfl⟩)) ?_
          refine ew_aload_n (M := mX9_bins) dX9_bins_75 rfl (Or.inr (Or.inl ⟨_, rfl⟩)) ?_
          refine ew_iload (M := mX9_bins) dX9_bins_76 rfl ?_
          refine ew_iload (M := mX9_bins) dX9_bins_78 rfl ?_
          refine ew_callV (M := mX9_bins) dX9_bins_80 vX9_193 (by repeat (first | with_reducible assumption | refine ex_eq ?_ | refine ex_ne ?_ (by omega) | exact ex_lt (by with_reducible assumption) | rw [List.length_set] | assumption)) rfl (sp_lastOf (P := S.2.2.1.1) a12 b12 b2 hp9 hw2 ha98 v12 hi hj) rfl (Nat.le_of_ble_eq_true rfl) ⟨Nat.le_refl _, Nat.le_refl _⟩ rfl (fun H80 r80 q80 => ?_)
          obtain ⟨rfl, hc3, hw3⟩ := q80
          rw [hae c71]
          have hV := hV c71
          obtain ⟨cw3, hw3⟩ := hw3
          have a13' := hc3.at a12 (by simp)
          refine ew_istore (M := mX9_bins) dX9_bins_83 (by decide) rfl ?_
          refine ew_iload_n (M := mX9_bins) dX9_bins_85 rfl ?_
          refine ew_iload (M := mX9_bins) dX9_bins_86 rfl ?_
          refine ew_bipush (M := mX9_bins) dX9_bins_88 (v := nI 16) (by decide) ?_
          refine ew_idiv (M := mX9_bins) dX9_bins_90 (by decide) ?_
          rw [pk_div (by omega) (by decide) (by decide)]
          refine ew_iload (M := mX9_bins) dX9_bins_91 rfl ?_
          refine ew_bipush (M := mX9_bins) dX9_bins_93 (v := nI 16) (by decide) ?_
          refine ew_irem (M := mX9_bins) dX9_bins_95 (by decide) ?_
          rw [pk_rem (by omega) (by decide) (by decide)]
          refine ew_iadd (M := mX9_bins) dX9_bins_96 ?_
          refine ew_iconst (M := mX9_bins) dX9_bins_97 (v := nI 2) (by decide) ?_
          refine ew_iadd (M := mX9_bins) dX9_bins_98 ?_
          refine ew_iadd (M := mX9_bins) dX9_bins_99 ?_
          rw [nI_add, nI_add, nI_add]
          refine ew_istore_n (M := mX9_bins) dX9_bins_100 (by decide) rfl ?_
          refine ew_iinc (M := mX9_bins) dX9_bins_101 rfl (ex_inc i) (by decide) rfl ?_
          refine ew_goto (M := mX9_bins) (tgt := 42) dX9_bins_104 rfl ?_
          simp only [c71, ↓reduceIte] at kk
          first
            | (refine ew_ls _ ?_ (kk _ (hc2.tr hc3 (by simp)) ⟨_, hw3⟩); exact ⟨rfl, rfl, rfl, rfl, rfl, trivial⟩)
            | (refine ew_ls _ ?_ (kk _ hc2 ⟨_, hw2⟩); exact ⟨rfl, rfl, rfl, rfl, rfl, trivial⟩)
      · intro H2 hc2 hw2
        obtain ⟨cw2, hw2⟩ := hw2
        have a12 := hc2.at a1 (by simp)
        have b12 := hc2.at b1 (by simp)
        have hp9 : pis H2 4 S.2.2.1.1 := b4.ch hc2 (by simp) (by simp) (by simp)
        obtain ⟨-, gs9, ms9, ⟨hp91, hp92, hp93⟩, -⟩ := id hp9
        have v12 := fiv.ch hc2 hav (by simp <;> omega)
        refine ew_iload (M := mX9_bins) dX9_bins_42 rfl ?_
        refine ew_aload_n (M := mX9_bins) dX9_bins_44 rfl (Or.inr (Or.inl ⟨_, rfl⟩)) ?_
        refine ew_get (M := mX9_bins) dX9_bins_45 fX9_19 (by repeat (first | with_reducible assumption | refine ex_eq ?_ | refine ex_ne ?_ (by omega) | exact ex_lt (by with_reducible assumption) | rw [List.length_set] | assumption)) (by rfl) ?_
        refine ew_get (M := mX9_bins) dX9_bins_48 fX9_86 (by repeat (first | with_reducible assumption | refine ex_eq ?_ | refine ex_ne ?_ (by omega) | exact ex_lt (by with_reducible assumption) | rw [List.length_set] | assumption)) (by rfl) ?_
        refine ew_get (M := mX9_bins) dX9_bins_51 fX9_99 (by repeat (first | with_reducible assumption | refine ex_eq ?_ | refine ex_ne ?_ (by omega) | exact ex_lt (by with_reducible assumption) | rw [List.length_set] | assumption)) (by rfl) ?_
        refine ew_icmp_ge (M := mX9_bins) (tgt := 107) dX9_bins_54 rfl (fun _ => ?_) (fun h => absurd (nI_le (Nat.le_refl _) (by omega)) h)
        refine ew_iinc (M := mX9_bins) dX9_bins_107 rfl (ex_inc j) (by decide) rfl ?_
        refine ew_goto (M := mX9_bins) (tgt := 24) dX9_bins_110 rfl ?_
        refine ew_ls _ ?_ (kk _ hc2 ⟨_, hw2⟩)
        exact ⟨rfl, rfl, rfl, rfl, trivial⟩
    · intro H2 hc2 hw2
      obtain ⟨cw2, hw2⟩ := hw2
      have a12 := hc2.at a1 (by simp)
      have b12 := hc2.at b1 (by simp)
      have hp9 : pis H2 4 S.2.2.1.1 := b4.ch hc2 (by simp) (by simp) (by simp)
      obtain ⟨-, gs9, ms9, ⟨hp91, hp92, hp93⟩, -⟩ := id hp9
      have v12 := fiv.ch hc2 hav (by simp <;> omega)
      refine ew_iload (M := mX9_bins) dX9_bins_24 rfl ?_
      refine ew_aload_n (M := mX9_bins) dX9_bins_26 rfl (Or.inr (Or.inl ⟨_, rfl⟩)) ?_
      refine ew_get (M := mX9_bins) dX9_bins_27 fX9_19 (by repeat (first | with_reducible assumption | refine ex_eq ?_ | refine ex_ne ?_ (by omega) | exact ex_lt (by with_reducible assumption) | rw [List.length_set] | assumption)) (by rfl) ?_
      refine ew_get (M := mX9_bins) dX9_bins_30 fX9_86 (by repeat (first | with_reducible assumption | refine ex_eq ?_ | refine ex_ne ?_ (by omega) | exact ex_lt (by with_reducible assumption) | rw [List.length_set] | assumption)) (by rfl) ?_
      refine ew_get (M := mX9_bins) dX9_bins_33 fX9_102 (by repeat (first | with_reducible assumption | refine ex_eq ?_ | refine ex_ne ?_ (by omega) | exact ex_lt (by with_reducible assumption) | rw [List.length_set] | assumption)) (by rfl) ?_
      refine ew_icmp_ge (M := mX9_bins) (tgt := 113) dX9_bins_36 rfl (fun _ => ?_) (fun h => absurd (nI_le (Nat.le_refl _) (by omega)) h)
      refine ew_iload_n (M := mX9_bins) dX9_bins_113 rfl ?_
      refine ew_iret (M := mX9_bins) dX9_bins_114 rfl (by first | rfl | decide) (Nat.le_refl _) (Nat.le_refl _) ?_
      exact ⟨rfl, hc2.sub (fun k hk => Or.inl (by rw [cL_mem]; simp at hk; omega)), cl_tmp hS (hc2.sub (by simp)) ⟨_, hw2⟩ (a14.ch hc2 (by simp) (by simp) (by simp)) (a15.ch hc2 (by simp) (by simp) (by simp))⟩
  · rw [cif_n hx]
    refine ew_aload_n (M := mX9_bins) dX9_bins_0 rfl (Or.inr (Or.inl ⟨_, rfl⟩)) ?_
    refine ew_get (M := mX9_bins) dX9_bins_1 fX9_19 (by repeat (first | with_reducible assumption | refine ex_eq ?_ | refine ex_ne ?_ (by omega) | exact ex_lt (by with_reducible assumption) | rw [List.length_set] | assumption)) (by rfl) ?_
    refine ew_get (M := mX9_bins) dX9_bins_4 fX9_120 (by repeat (first | with_reducible assumption | refine ex_eq ?_ | refine ex_ne ?_ (by omega) | exact ex_lt (by with_reducible assumption) | rw [List.length_set] | assumption)) (by rfl) ?_
    refine ew_iload_n (M := mX9_bins) dX9_bins_7 rfl ?_
    refine ew_callV (M := mX9_bins) dX9_bins_8 vX9_167 (by repeat (first | with_reducible assumption | refine ex_eq ?_ | refine ex_ne ?_ (by omega) | exact ex_lt (by with_reducible assumption) | rw [List.length_set] | assumption)) rfl (sp_numbered_n b5 hx) rfl (Nat.le_of_ble_eq_true rfl) ⟨Nat.le_refl _, Nat.le_refl _⟩ rfl (fun H8 r8 q8 => ?_)
    obtain ⟨rfl, rfl⟩ := q8
    refine ew_astore_n (M := mX9_bins) dX9_bins_11 (Or.inl rfl) (by decide) rfl ?_
    refine ew_aload_n (M := mX9_bins) dX9_bins_12 rfl (Or.inl rfl) ?_
    refine ew_ifnonnull (v := none) (M := mX9_bins) (tgt := 19) dX9_bins_13 rfl (fun _ h => by cases h) (fun _ => ?_)
    refine ew_ldc (M := mX9_bins) dX9_bins_16 kX9_141 ?_
    refine ew_iret (M := mX9_bins) dX9_bins_18 rfl (by first | rfl | decide) (Nat.le_refl _) (Nat.le_refl _) ?_
    exact ⟨rfl, ex_ch.rf, hS⟩
noncomputable def pm_spikes (P : PT) (v : FV) (fi : Nat) (t : Int32) : Nat := fl (fun j n => fl (fun i n => if P.2.2.2 (j * P.1 + i) = 0 then (if absI (nI (P.2.2.1 (j * P.1 + i)) - nI (lsV P v fi i j)) ≤ t then n else n + 1) else n) P.1 n) P.2.1 0
noncomputable def f_spikes (S : SS) (f t : Int32) : Int32 × SS := (cif (fin S.2.2.1.2.1.1 f) (cif (nI 0 ≤ t ∧ t ≤ nI 255) (nI (pm_spikes S.2.2.1.1 (S.2.2.1.2.1.2 f.toNatClampNeg) S.2.2.1.2.2.1 t)) (-1000000002)) (-1000000001), S)
theorem cs_spikes {d : Nat} {H : ex_H} {S : SS} (hS : cl_is H S) (f t : Int32) : ex_Met mX9_spikes (d + 5) 0 0 H [.ref 0, .int f, .int t] (fun H' r => r = some (.int (f_spikes S f t).1) ∧ ex_ch H H' cL ∧ cl_is H' (f_spikes S f t).2) := by
  obtain ⟨a1, ⟨pl, a2⟩, a3, ⟨fa, a4, a5, a6⟩, a7, a8, ⟨fk, a9, a10⟩, a11, a12, ⟨cw, a13⟩, a14, a15⟩ := id hS
  obtain ⟨b1, b2, b3, b4, b5⟩ := id a3
  obtain ⟨⟨bz, bgm⟩, bgs, bms, ⟨bp1, bp2, bp3⟩, bct⟩ := id b4
  obtain ⟨bz1, bz2, bz3, bz4⟩ := id bz
  obtain ⟨b51, b52, b53⟩ := id b5
  obtain ⟨w1, co, fn, w2, w3, w4⟩ := id a13
  refine ex_meth [(0, .ref 0), (1, .int f), (2, .int t)] rfl rfl rfl (fun b => Nat.le_of_ble_eq_true rfl) ?_
  unfold f_spikes
  by_cases hx : fin S.2.2.1.2.1.1 f
  · rw [cif_y hx]
    obtain ⟨k, hk, rfl⟩ := id hx
    rw [nI_clamp (show k < 2 ^ 31 by omega)]
    by_cases ht : nI 0 ≤ t ∧ t ≤ nI 255
    · rw [cif_y ht]
      refine ew_aload_n (M := mX9_spikes) dX9_spikes_0 rfl (Or.inr (Or.inl ⟨_, rfl⟩)) ?_
      refine ew_get (M := mX9_spikes) dX9_spikes_1 fX9_19 (by repeat (first | with_reducible assumption | refine ex_eq ?_ | refine ex_ne ?_ (by omega) | exact ex_lt (by with_reducible assumption) | rw [List.length_set] | assumption)) (by rfl) ?_
      refine ew_get (M := mX9_spikes) dX9_spikes_4 fX9_120 (by repeat (first | with_reducible assumption | refine ex_eq ?_ | refine ex_ne ?_ (by omega) | exact ex_lt (by with_reducible assumption) | rw [List.length_set] | assumption)) (by rfl) ?_
      refine ew_iload_n (M := mX9_spikes) dX9_spikes_7 rfl ?_
      refine ew_callV (M := mX9_spikes) dX9_spikes_8 vX9_167 (by repeat (first | with_reducible assumption | refine ex_eq ?_ | refine ex_ne ?_ (by omega) | exact ex_lt (by with_reducible assumption) | rw [List.length_set] | assumption)) rfl (sp_numbered b5 hk) rfl (Nat.le_of_ble_eq_true rfl) ⟨Nat.le_refl _, Nat.le_refl _⟩ rfl (fun H8 r8 q8 => ?_)
      obtain ⟨a, rfl, rfl, ha98, hav⟩ := q8
      obtain ⟨v1, v2, v3, v4, v5, v6, v7⟩ := id hav
      refine ew_astore_n (M := mX9_spikes) dX9_spikes_11 (Or.inr ⟨_, rfl⟩) (by decide) rfl ?_
      refine ew_aload_n (M := mX9_spikes) dX9_spikes_12 rfl (Or.inr (Or.inl ⟨_, rfl⟩)) ?_
      refine ew_ifnonnull (v := some a) (M := mX9_spikes) (tgt := 19) dX9_spikes_13 rfl (fun _ _ => ?_) (fun h => by cases h)
      refine ew_iload_n (M := mX9_spikes) dX9_spikes_19 rfl ?_
      refine ew_iconst (M := mX9_spikes) dX9_spikes_20 (v := nI 0) (by decide) ?_
      refine ew_sipush (M := mX9_spikes) dX9_spikes_21 (v := nI 255) (by decide) ?_
      refine ew_callS (M := mX9_spikes) dX9_spikes_24 vX9_66 (sp_within_y ht.1 ht.2) rfl (Nat.le_of_ble_eq_true rfl) ⟨Nat.le_refl _, Nat.le_refl _⟩ rfl (fun H24 r24 q24 => ?_)
      obtain ⟨rfl, rfl⟩ := q24
      refine ew_if_ne (M := mX9_spikes) (tgt := 33) dX9_spikes_27 rfl (fun _ => ?_) (fun h => absurd h (by decide))
      refine ew_iconst (M := mX9_spikes) dX9_spikes_33 (v := nI 0) (by decide) ?_
      refine ew_istore (M := mX9_spikes) dX9_spikes_34 (by decide) rfl ?_
      refine ew_iconst (M := mX9_spikes) dX9_spikes_36 (v := nI 0) (by decide) ?_
      refine ew_istore (M := mX9_spikes) dX9_spikes_37 (by decide) rfl ?_
      refine ew_ls [(0, .ref 0), (2, .int t), (3, .ref a), (4, .int (nI 0)), (5, .int (nI 0))] ⟨rfl, rfl, rfl, rfl, rfl, trivial⟩ ?_
      refine fl_down (F := fun j n => fl (fun i n => if S.2.2.1.1.2.2.2 (j * S.2.2.1.1.1 + i) = 0 then (if absI (nI (S.2.2.1.1.2.2.1 (j * S.2.2.1.1.1 + i)) - nI (lsV S.2.2.1.1 (S.2.2.1.2.1.2 k) S.2.2.1.2.2.1 i j)) ≤ t then n else n + 1) else n) S.2.2.1.1.1 n) (P := fun j n => ∀ H2 : ex_H, ex_ch H H2 [77, 78, 79] → (∃ c, wi_is H2 77 c) → ex_W mX9_spikes (d + 5) 0 0 (fun H' r => r = some (.int (nI (pm_spikes S.2.2.1.1 (S.2.2.1.2.1.2 k) S.2.2.1.2.2.1 t))) ∧ ex_ch H H' cL ∧ cl_is H' S) H2 39 [(0, .ref 0), (2, .int t), (3, .ref a), (4, .int (nI n)), (5, .int (nI j))] [] 0 0) S.2.2.1.1.2.1 0 (fun j n hj _ kk => ?_) ?_ H ex_ch.rf ⟨cw, a13⟩
      · intro H2 hc2 hw2
        obtain ⟨cw2, hw2⟩ := hw2
        have a12 := hc2.at a1 (by simp)
        have b12 := hc2.at b1 (by simp)
        have hp9 : pis H2 4 S.2.2.1.1 := b4.ch hc2 (by simp) (by simp) (by simp)
        obtain ⟨-, gs9, ms9, ⟨hp91, hp92, hp93⟩, -⟩ := id hp9
        have v12 := fiv.ch hc2 hav (by simp <;> omega)
        refine ew_iload (M := mX9_spikes) dX9_spikes_39 rfl ?_
        refine ew_aload_n (M := mX9_spikes) dX9_spikes_41 rfl (Or.inr (Or.inl ⟨_, rfl⟩)) ?_
        refine ew_get (M := mX9_spikes) dX9_spikes_42 fX9_19 (by repeat (first | with_reducible assumption | refine ex_eq ?_ | refine ex_ne ?_ (by omega) | exact ex_lt (by with_reducible assumption) | rw [List.length_set] | assumption)) (by rfl) ?_
        refine ew_get (M := mX9_spikes) dX9_spikes_45 fX9_86 (by repeat (first | with_reducible assumption | refine ex_eq ?_ | refine ex_ne ?_ (by omega) | exact ex_lt (by with_reducible assumption) | rw [List.length_set] | assumption)) (by rfl) ?_
        refine ew_get (M := mX9_spikes) dX9_spikes_48 fX9_102 (by repeat (first | with_reducible assumption | refine ex_eq ?_ | refine ex_ne ?_ (by omega) | exact ex_lt (by with_reducible assumption) | rw [List.length_set] | assumption)) (by rfl) ?_
        refine ew_icmp_ge (M := mX9_spikes) (tgt := 135) dX9_spikes_51 rfl (fun h => absurd h (nI_ge hj (by omega))) (fun _ => ?_)
        refine ew_iconst (M := mX9_spikes) dX9_spikes_54 (v := nI 0) (by decide) ?_
        refine ew_istore (M := mX9_spikes) dX9_spikes_55 (by decide) rfl ?_
        refine ew_ls [(0, .ref 0), (2, .int t), (3, .ref a), (4, .int (nI n)), (5, .int (nI j)), (6, .int (nI 0))] ⟨rfl, rfl, rfl, rfl, rfl, rfl, trivial⟩ ?_
        refine fl_down (F := (fun i n => if S.2.2.1.1.2.2.2 (j * S.2.2.1.1.1 + i) = 0 then (if absI (nI (S.2.2.1.1.2.2.1 (j * S.2.2.1.1.1 + i)) - nI (lsV S.2.2.1.1 (S.2.2.1.2.1.2 k) S.2.2.1.2.2.1 i j)) ≤ t then n else n + 1) else n)) (P := fun i n => ∀ H2 : ex_H, ex_ch H H2 [77, 78, 79] → (∃ c, wi_is H2 77 c) → ex_W mX9_spikes (d + 5) 0 0 (fun H' r => r = some (.int (nI (pm_spikes S.2.2.1.1 (S.2.2.1.2.1.2 k) S.2.2.1.2.2.1 t))) ∧ ex_ch H H' cL ∧ cl_is H' S) H2 57 [(0, .ref 0), (2, .int t), (3, .ref a), (4, .int (nI n)), (5, .int (nI j)), (6, .int (nI i))] [] 0 0) S.2.2.1.1.1 n (fun i n hi _ kk => ?_) ?_ H2 hc2 ⟨cw2, hw2⟩
        · intro H2 hc2 hw2
          obtain ⟨cw2, hw2⟩ := hw2
          have a12 := hc2.at a1 (by simp)
          have b12 := hc2.at b1 (by simp)
          have hp9 : pis H2 4 S.2.2.1.1 := b4.ch hc2 (by simp) (by simp) (by simp)
          obtain ⟨-, gs9, ms9, ⟨hp91, hp92, hp93⟩, -⟩ := id hp9
          have v12 := fiv.ch hc2 hav (by simp <;> omega)
          have hkk := pi_lt hi hj
          have hg1 := bgm _ hkk
          have hpos : S.2.2.1.1.2.2.2 (j * S.2.2.1.1.1 + i) = 0 → 1 ≤ lsN S.2.2.1.1 (S.2.2.1.2.1.2 k) S.2.2.1.2.2.1 i j := fun e => cnts_pos hi hj hg1.1 e
          have hV : S.2.2.1.1.2.2.2 (j * S.2.2.1.1.1 + i) = 0 → lsV S.2.2.1.1 (S.2.2.1.2.1.2 k) S.2.2.1.2.2.1 i j < 256 := fun e => lsV_lt v4 (hpos e)
          have hae : S.2.2.1.1.2.2.2 (j * S.2.2.1.1.1 + i) = 0 → lsI S.2.2.1.1 (S.2.2.1.2.1.2 k) S.2.2.1.2.2.1 i j = nI (lsV S.2.2.1.1 (S.2.2.1.2.1.2 k) S.2.2.1.2.2.1 i j) := fun e => by
            unfold lsI
            exact if_neg (by have := hpos e; omega)
          refine ew_iload (M := mX9_spikes) dX9_spikes_57 rfl ?_
          refine ew_aload_n (M := mX9_spikes) dX9_spikes_59 rfl (Or.inr (Or.inl ⟨_, rfl⟩)) ?_
          refine ew_get (M := mX9_spikes) dX9_spikes_60 fX9_19 (by repeat (first | with_reducible assumption | refine ex_eq ?_ | refine ex_ne ?_ (by omega) | exact ex_lt (by with_reducible assumption) | rw [List.length_set] | assumption)) (by rfl) ?_
          refine ew_get (M := mX9_spikes) dX9_spikes_63 fX9_86 (by repeat (first | with_reducible assumption | refine ex_eq ?_ | refine ex_ne ?_ (by omega) | exact ex_lt (by with_reducible assumption) | rw [List.length_set] | assumption)) (by rfl) ?_
          refine ew_get (M := mX9_spikes) dX9_spikes_66 fX9_99 (by repeat (first | with_reducible assumption | refine ex_eq ?_ | refine ex_ne ?_ (by omega) | exact ex_lt (by with_reducible assumption) | rw [List.length_set] | assumption)) (by rfl) ?_
          refine ew_icmp_ge (M := mX9_spikes) (tgt := 129) dX9_spikes_69 rfl (fun h => absurd h (nI_ge hi (by omega))) (fun _ => ?_)
          refine ew_aload_n (M := mX9_spikes) dX9_spikes_72 rfl (Or.inr (Or.inl ⟨_, rfl⟩)) ?_
          refine ew_get (M := mX9_spikes) dX9_spikes_73 fX9_19 (by repeat (first | with_reducible assumption | refine ex_eq ?_ | refine ex_ne ?_ (by omega) | exact ex_lt (by with_reducible assumption) | rw [List.length_set] | assumption)) (by rfl) ?_
          refine ew_get (M := mX9_spikes) dX9_spikes_76 fX9_86 (by repeat (first | with_reducible assumption | refine ex_eq ?_ | refine ex_ne ?_ (by omega) | exact ex_lt (by with_reducible assumption) | rw [List.length_set] | assumption)) (by rfl) ?_
          refine ew_iload (M := mX9_spikes) dX9_spikes_79 rfl ?_
          refine ew_iload (M := mX9_spikes) dX9_spikes_81 rfl ?_
          refine ew_callV (M := mX9_spikes) dX9_spikes_83 vX9_146 (by repeat (first | with_reducible assumption | refine ex_eq ?_ | refine ex_ne ?_ (by omega) | exact ex_lt (by with_reducible assumption) | rw [List.length_set] | assumption)) rfl (sp_isMasked hp9 hi hj) rfl (Nat.le_of_ble_eq_true rfl) ⟨Nat.le_refl _, Nat.le_refl _⟩ rfl (fun H83 r83 q83 => ?_)
          obtain ⟨rfl, rfl⟩ := q83
          refine ew_if_ne (M := mX9_spikes) (tgt := 123) dX9_spikes_86 rfl (fun c86 => ?_) (fun c86 => ?_)
          · rw [nI_z (by omega)] at c86
            refine ew_iinc (M := mX9_spikes) dX9_spikes_123 rfl (ex_inc i) (by decide) rfl ?_
            refine ew_goto (M := mX9_spikes) (tgt := 57) dX9_spikes_126 rfl ?_
            try simp only [c86, ↓reduceIte] at kk
            first
              | (refine ew_ls _ ?_ (kk _ (hc2.tr hc3 (by simp)) ⟨_, hw3⟩); exact ⟨rfl, rfl, rfl, rfl, rfl, rfl, trivial⟩)
              | (refine ew_ls _ ?_ (kk _ hc2 ⟨_, hw2⟩); exact ⟨rfl, rfl, rfl, rfl, rfl, rfl, trivial⟩)
          · rw [nI_z (by omega)] at c86
            refine ew_aload_n (M := mX9_spikes) dX9_spikes_89 rfl (Or.inr (Or.inl ⟨_, rfl⟩)) ?_
            refine ew_get (M := mX9_spikes) dX9_spikes_90 fX9_19 (by repeat (first | with_reducible assumption | refine ex_eq ?_ | refine ex_ne ?_ (by omega) | exact ex_lt (by with_reducible assumption) | rw [List.length_set] | assumption)) (by rfl) ?_
            refine ew_get (M := mX9_spikes) dX9_spikes_93 fX9_86 (by repeat (first | with_reducible assumption | refine ex_eq ?_ | refine ex_ne ?_ (by omega) | exact ex_lt (by with_reducible assumption) | rw [List.length_set] | assumption)) (by rfl) ?_
            refine ew_iload (M := mX9_spikes) dX9_spikes_96 rfl ?_
            refine ew_iload (M := mX9_spikes) dX9_spikes_98 rfl ?_
            refine ew_callV (M := mX9_spikes) dX9_spikes_100 vX9_142 (by repeat (first | with_reducible assumption | refine ex_eq ?_ | refine ex_ne ?_ (by omega) | exact ex_lt (by with_reducible assumption) | rw [List.length_set] | assumption)) rfl (sp_greyOf hp9 hi hj) rfl (Nat.le_of_ble_eq_true rfl) ⟨Nat.le_refl _, Nat.le_refl _⟩ rfl (fun H100 r100 q100 => ?_)
            obtain ⟨rfl, rfl⟩ := q100
            refine ew_aload_n (M := mX9_spikes) dX9_spikes_103 rfl (Or.inr (Or.inl ⟨_, rfl⟩)) ?_
            refine ew_aload_n (M := mX9_spikes) dX9_spikes_104 rfl (Or.inr (Or.inl ⟨_, rfl⟩)) ?_
            refine ew_iload (M := mX9_spikes) dX9_spikes_105 rfl ?_
            refine ew_iload (M := mX9_spikes) dX9_spikes_107 rfl ?_
            refine ew_callV (M := mX9_spikes) dX9_spikes_109 vX9_193 (by repeat (first | with_reducible assumption | refine ex_eq ?_ | refine ex_ne ?_ (by omega) | exact ex_lt (by with_reducible assumption) | rw [List.length_set] | assumption)) rfl (sp_lastOf (P := S.2.2.1.1) a12 b12 b2 hp9 hw2 ha98 v12 hi hj) rfl (Nat.le_of_ble_eq_true rfl) ⟨Nat.le_refl _, Nat.le_refl _⟩ rfl (fun H109 r109 q109 => ?_)
            obtain ⟨rfl, hc3, hw3⟩ := q109
            rw [hae c86]
            have hV := hV c86
            obtain ⟨cw3, hw3⟩ := hw3
            have a13' := hc3.at a12 (by simp)
            refine ew_isub (M := mX9_spikes) dX9_spikes_112 ?_
            refine ew_callS (M := mX9_spikes) dX9_spikes_113 vX9_197 (sp_abs) rfl (Nat.le_of_ble_eq_true rfl) ⟨Nat.le_refl _, Nat.le_refl _⟩ rfl (fun H113 r113 q113 => ?_)
            obtain ⟨rfl, rfl⟩ := q113
            refine ew_iload_n (M := mX9_spikes) dX9_spikes_116 rfl ?_
            refine ew_icmp_le (M := mX9_spikes) (tgt := 123) dX9_spikes_117 rfl (fun c117 => ?_) (fun c117 => ?_)
            · simp only [c86, c117, ↓reduceIte] at kk
              refine ew_iinc (M := mX9_spikes) dX9_spikes_123 rfl (ex_inc i) (by decide) rfl ?_
              refine ew_goto (M := mX9_spikes) (tgt := 57) dX9_spikes_126 rfl ?_
              try simp only [c86, ↓reduceIte] at kk
              first
                | (refine ew_ls _ ?_ (kk _ (hc2.tr hc3 (by simp)) ⟨_, hw3⟩); exact ⟨rfl, rfl, rfl, rfl, rfl, rfl, trivial⟩)
                | (refine ew_ls _ ?_ (kk _ hc2 ⟨_, hw2⟩); exact ⟨rfl, rfl, rfl, rfl, rfl, rfl, trivial⟩)
            · simp only [c86, c117, ↓reduceIte] at kk
              refine ew_iinc (M := mX9_spikes) dX9_spikes_120 rfl (ex_inc n) (by decide) rfl ?_
              refine ew_iinc (M := mX9_spikes) dX9_spikes_123 rfl (ex_inc i) (by decide) rfl ?_
              refine ew_goto (M := mX9_spikes) (tgt := 57) dX9_spikes_126 rfl ?_
              try simp only [c86, ↓reduceIte] at kk
              first
                | (refine ew_ls _ ?_ (kk _ (hc2.tr hc3 (by simp)) ⟨_, hw3⟩); exact ⟨rfl, rfl, rfl, rfl, rfl, rfl, trivial⟩)
                | (refine ew_ls _ ?_ (kk _ hc2 ⟨_, hw2⟩); exact ⟨rfl, rfl, rfl, rfl, rfl, rfl, trivial⟩)
        · intro H2 hc2 hw2
          obtain ⟨cw2, hw2⟩ := hw2
          have a12 := hc2.at a1 (by simp)
          have b12 := hc2.at b1 (by simp)
          have hp9 : pis H2 4 S.2.2.1.1 := b4.ch hc2 (by simp) (by simp) (by simp)
          obtain ⟨-, gs9, ms9, ⟨hp91, hp92, hp93⟩, -⟩ := id hp9
          have v12 := fiv.ch hc2 hav (by simp <;> omega)
          refine ew_iload (M := mX9_spikes) dX9_spikes_57 rfl ?_
          refine ew_aload_n (M := mX9_spikes) dX9_spikes_59 rfl (Or.inr (Or.inl ⟨_, rfl⟩)) ?_
          refine ew_get (M := mX9_spikes) dX9_spikes_60 fX9_19 (by repeat (first | with_reducible assumption | refine ex_eq ?_ | refine ex_ne ?_ (by omega) | exact ex_lt (by with_reducible assumption) | rw [List.length_set] | assumption)) (by rfl) ?_
          refine ew_get (M := mX9_spikes) dX9_spikes_63 fX9_86 (by repeat (first | with_reducible assumption | refine ex_eq ?_ | refine ex_ne ?_ (by omega) | exact ex_lt (by with_reducible assumption) | rw [List.length_set] | assumption)) (by rfl) ?_
          refine ew_get (M := mX9_spikes) dX9_spikes_66 fX9_99 (by repeat (first | with_reducible assumption | refine ex_eq ?_ | refine ex_ne ?_ (by omega) | exact ex_lt (by with_reducible assumption) | rw [List.length_set] | assumption)) (by rfl) ?_
          refine ew_icmp_ge (M := mX9_spikes) (tgt := 129) dX9_spikes_69 rfl (fun _ => ?_) (fun h => absurd (nI_le (Nat.le_refl _) (by omega)) h)
          refine ew_iinc (M := mX9_spikes) dX9_spikes_129 rfl (ex_inc j) (by decide) rfl ?_
          refine ew_goto (M := mX9_spikes) (tgt := 39) dX9_spikes_132 rfl ?_
          refine ew_ls _ ?_ (kk _ hc2 ⟨_, hw2⟩)
          exact ⟨rfl, rfl, rfl, rfl, rfl, trivial⟩
      · intro H2 hc2 hw2
        obtain ⟨cw2, hw2⟩ := hw2
        have a12 := hc2.at a1 (by simp)
        have b12 := hc2.at b1 (by simp)
        have hp9 : pis H2 4 S.2.2.1.1 := b4.ch hc2 (by simp) (by simp) (by simp)
        obtain ⟨-, gs9, ms9, ⟨hp91, hp92, hp93⟩, -⟩ := id hp9
        have v12 := fiv.ch hc2 hav (by simp <;> omega)
        refine ew_iload (M := mX9_spikes) dX9_spikes_39 rfl ?_
        refine ew_aload_n (M := mX9_spikes) dX9_spikes_41 rfl (Or.inr (Or.inl ⟨_, rfl⟩)) ?_
        refine ew_get (M := mX9_spikes) dX9_spikes_42 fX9_19 (by repeat (first | with_reducible assumption | refine ex_eq ?_ | refine ex_ne ?_ (by omega) | exact ex_lt (by with_reducible assumption) | rw [List.length_set] | assumption)) (by rfl) ?_
        refine ew_get (M := mX9_spikes) dX9_spikes_45 fX9_86 (by repeat (first | with_reducible assumption | refine ex_eq ?_ | refine ex_ne ?_ (by omega) | exact ex_lt (by with_reducible assumption) | rw [List.length_set] | assumption)) (by rfl) ?_
        refine ew_get (M := mX9_spikes) dX9_spikes_48 fX9_102 (by repeat (first | with_reducible assumption | refine ex_eq ?_ | refine ex_ne ?_ (by omega) | exact ex_lt (by with_reducible assumption) | rw [List.length_set] | assumption)) (by rfl) ?_
        refine ew_icmp_ge (M := mX9_spikes) (tgt := 135) dX9_spikes_51 rfl (fun _ => ?_) (fun h => absurd (nI_le (Nat.le_refl _) (by omega)) h)
        refine ew_iload (M := mX9_spikes) dX9_spikes_135 rfl ?_
        refine ew_iret (M := mX9_spikes) dX9_spikes_137 rfl (by first | rfl | decide) (Nat.le_refl _) (Nat.le_refl _) ?_
        exact ⟨rfl, hc2.sub (fun k hk => Or.inl (by rw [cL_mem]; simp at hk; omega)), cl_tmp hS (hc2.sub (by simp)) ⟨_, hw2⟩ (a14.ch hc2 (by simp) (by simp) (by simp)) (a15.ch hc2 (by simp) (by simp) (by simp))⟩
    · rw [cif_n ht]
      refine ew_aload_n (M := mX9_spikes) dX9_spikes_0 rfl (Or.inr (Or.inl ⟨_, rfl⟩)) ?_
      refine ew_get (M := mX9_spikes) dX9_spikes_1 fX9_19 (by repeat (first | with_reducible assumption | refine ex_eq ?_ | refine ex_ne ?_ (by omega) | exact ex_lt (by with_reducible assumption) | rw [List.length_set] | assumption)) (by rfl) ?_
      refine ew_get (M := mX9_spikes) dX9_spikes_4 fX9_120 (by repeat (first | with_reducible assumption | refine ex_eq ?_ | refine ex_ne ?_ (by omega) | exact ex_lt (by with_reducible assumption) | rw [List.length_set] | assumption)) (by rfl) ?_
      refine ew_iload_n (M := mX9_spikes) dX9_spikes_7 rfl ?_
      refine ew_callV (M := mX9_spikes) dX9_spikes_8 vX9_167 (by repeat (first | with_reducible assumption | refine ex_eq ?_ | refine ex_ne ?_ (by omega) | exact ex_lt (by with_reducible assumption) | rw [List.length_set] | assumption)) rfl (sp_numbered b5 hk) rfl (Nat.le_of_ble_eq_true rfl) ⟨Nat.le_refl _, Nat.le_refl _⟩ rfl (fun H8 r8 q8 => ?_)
      obtain ⟨a, rfl, rfl, ha98, hav⟩ := q8
      obtain ⟨v1, v2, v3, v4, v5, v6, v7⟩ := id hav
      refine ew_astore_n (M := mX9_spikes) dX9_spikes_11 (Or.inr ⟨_, rfl⟩) (by decide) rfl ?_
      refine ew_aload_n (M := mX9_spikes) dX9_spikes_12 rfl (Or.inr (Or.inl ⟨_, rfl⟩)) ?_
      refine ew_ifnonnull (v := some a) (M := mX9_spikes) (tgt := 19) dX9_spikes_13 rfl (fun _ _ => ?_) (fun h => by cases h)
      refine ew_iload_n (M := mX9_spikes) dX9_spikes_19 rfl ?_
      refine ew_iconst (M := mX9_spikes) dX9_spikes_20 (v := nI 0) (by decide) ?_
      refine ew_sipush (M := mX9_spikes) dX9_spikes_21 (v := nI 255) (by decide) ?_
      refine ew_callS (M := mX9_spikes) dX9_spikes_24 vX9_66 (sp_within_n ht) rfl (Nat.le_of_ble_eq_true rfl) ⟨Nat.le_refl _, Nat.le_refl _⟩ rfl (fun H24 r24 q24 => ?_)
      obtain ⟨rfl, rfl⟩ := q24
      refine ew_if_ne (M := mX9_spikes) (tgt := 33) dX9_spikes_27 rfl (fun h => absurd rfl h) (fun _ => ?_)
      refine ew_ldc (M := mX9_spikes) dX9_spikes_30 kX9_70 ?_
      refine ew_iret (M := mX9_spikes) dX9_spikes_32 rfl (by first | rfl | decide) (Nat.le_refl _) (Nat.le_refl _) ?_
      exact ⟨rfl, ex_ch.rf, hS⟩
  · rw [cif_n hx]
    refine ew_aload_n (M := mX9_spikes) dX9_spikes_0 rfl (Or.inr (Or.inl ⟨_, rfl⟩)) ?_
    refine ew_get (M := mX9_spikes) dX9_spikes_1 fX9_19 (by repeat (first | with_reducible assumption | refine ex_eq ?_ | refine ex_ne ?_ (by omega) | exact ex_lt (by with_reducible assumption) | rw [List.length_set] | assumption)) (by rfl) ?_
    refine ew_get (M := mX9_spikes) dX9_spikes_4 fX9_120 (by repeat (first | with_reducible assumption | refine ex_eq ?_ | refine ex_ne ?_ (by omega) | exact ex_lt (by with_reducible assumption) | rw [List.length_set] | assumption)) (by rfl) ?_
    refine ew_iload_n (M := mX9_spikes) dX9_spikes_7 rfl ?_
    refine ew_callV (M := mX9_spikes) dX9_spikes_8 vX9_167 (by repeat (first | with_reducible assumption | refine ex_eq ?_ | refine ex_ne ?_ (by omega) | exact ex_lt (by with_reducible assumption) | rw [List.length_set] | assumption)) rfl (sp_numbered_n b5 hx) rfl (Nat.le_of_ble_eq_true rfl) ⟨Nat.le_refl _, Nat.le_refl _⟩ rfl (fun H8 r8 q8 => ?_)
    obtain ⟨rfl, rfl⟩ := q8
    refine ew_astore_n (M := mX9_spikes) dX9_spikes_11 (Or.inl rfl) (by decide) rfl ?_
    refine ew_aload_n (M := mX9_spikes) dX9_spikes_12 rfl (Or.inl rfl) ?_
    refine ew_ifnonnull (v := none) (M := mX9_spikes) (tgt := 19) dX9_spikes_13 rfl (fun _ h => by cases h) (fun _ => ?_)
    refine ew_ldc (M := mX9_spikes) dX9_spikes_16 kX9_141 ?_
    refine ew_iret (M := mX9_spikes) dX9_spikes_18 rfl (by first | rfl | decide) (Nat.le_refl _) (Nat.le_refl _) ?_
    exact ⟨rfl, ex_ch.rf, hS⟩
