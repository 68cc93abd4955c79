noncomputable def f_drop (S : SS) (f : Int32) : Int32 × SS := cif (fin S.2.2.1.2.1.1 f) (nI (S.2.2.1.2.1.1 - 1), s_now S (S.2.2.1.1, (S.2.2.1.2.1.1 - 1, f_rem S.2.2.1.2.1.2 f.toNatClampNeg), S.2.2.1.2.2)) (-1000000001, S)
theorem cs_drop {d : Nat} {H : ex_H} {S : SS} (hS : cl_is H S) (f : Int32) : ex_Met mX9_drop (d + 2) 0 0 H [.ref 0, .int f] (fun H' r => r = some (.int (f_drop S f).1) ∧ ex_ch H H' cL ∧ cl_is H' (f_drop S f).2) := by
  obtain ⟨a1, ⟨pl, a2⟩, a3, ⟨fa, a4, a5, a6⟩, a7, a8, ⟨fk, a9, a10⟩, a11, a12, ⟨cw, a13⟩, a14, a15⟩ := id hS
  obtain ⟨b1, b2, b3, b4, b5⟩ := id a3
  obtain ⟨⟨bz, bgm⟩, bgs, bms, ⟨bp1, bp2, bp3⟩, bct⟩ := id b4
  obtain ⟨bz1, bz2, bz3, bz4⟩ := id bz
  obtain ⟨b51, b52, b53⟩ := id b5
  refine ex_meth [(0, .ref 0), (1, .int f)] rfl rfl rfl (fun b => Nat.le_of_ble_eq_true rfl) ?_
  unfold f_drop
  by_cases hx : fin S.2.2.1.2.1.1 f
  · rw [cif_y hx]
    obtain ⟨k, hk, rfl⟩ := id hx
    rw [nI_clamp (show k < 2 ^ 31 by omega)]
    refine ew_aload_n (M := mX9_drop) dX9_drop_0 rfl (Or.inr (Or.inl ⟨_, rfl⟩)) ?_
    refine ew_get (M := mX9_drop) dX9_drop_1 fX9_19 (by repeat (first | with_reducible assumption | refine ex_eq ?_ | refine ex_ne ?_ (by omega) | exact ex_lt (by with_reducible assumption) | rw [List.length_set] | assumption)) (by rfl) ?_
    refine ew_get (M := mX9_drop) dX9_drop_4 fX9_120 (by repeat (first | with_reducible assumption | refine ex_eq ?_ | refine ex_ne ?_ (by omega) | exact ex_lt (by with_reducible assumption) | rw [List.length_set] | assumption)) (by rfl) ?_
    refine ew_iload_n (M := mX9_drop) dX9_drop_7 rfl ?_
    refine ew_callV (M := mX9_drop) dX9_drop_8 vX9_167 (by repeat (first | with_reducible assumption | refine ex_eq ?_ | refine ex_ne ?_ (by omega) | exact ex_lt (by with_reducible assumption) | rw [List.length_set] | assumption)) rfl (sp_numbered b5 hk) rfl (Nat.le_of_ble_eq_true rfl) ⟨Nat.le_refl _, Nat.le_refl _⟩ rfl (fun H8 r8 q8 => ?_)
    obtain ⟨a, rfl, rfl, ha98, hav⟩ := q8
    refine ew_ifnonnull (v := some a) (M := mX9_drop) (tgt := 17) dX9_drop_11 rfl (fun _ _ => ?_) (fun h => by cases h)
    refine ew_aload_n (M := mX9_drop) dX9_drop_17 rfl (Or.inr (Or.inl ⟨_, rfl⟩)) ?_
    refine ew_get (M := mX9_drop) dX9_drop_18 fX9_19 (by repeat (first | with_reducible assumption | refine ex_eq ?_ | refine ex_ne ?_ (by omega) | exact ex_lt (by with_reducible assumption) | rw [List.length_set] | assumption)) (by rfl) ?_
    refine ew_get (M := mX9_drop) dX9_drop_21 fX9_120 (by repeat (first | with_reducible assumption | refine ex_eq ?_ | refine ex_ne ?_ (by omega) | exact ex_lt (by with_reducible assumption) | rw [List.length_set] | assumption)) (by rfl) ?_
    refine ew_iload_n (M := mX9_drop) dX9_drop_24 rfl ?_
    refine ew_callV (M := mX9_drop) dX9_drop_25 vX9_171 (by repeat (first | with_reducible assumption | refine ex_eq ?_ | refine ex_ne ?_ (by omega) | exact ex_lt (by with_reducible assumption) | rw [List.length_set] | assumption)) rfl (sp_remove b5 hk (by omega)) rfl (Nat.le_of_ble_eq_true rfl) ⟨Nat.le_refl _, Nat.le_refl _⟩ rfl (fun H25 r25 q25 => ?_)
    obtain ⟨rfl, hc1, hf1⟩ := q25
    refine ew_iret (M := mX9_drop) dX9_drop_28 rfl (by first | rfl | decide) (Nat.le_refl _) (Nat.le_refl _) ?_
    exact ⟨rfl, hc1.sub (fun k hk => Or.inl (by rw [cL_mem]; simp at hk; omega)), cl_now hS (hc1.sub (by simp)) ⟨hc1.at b1 (by simp), b2, b3, b4.ch hc1 (by simp) (by simp) (by simp), hf1⟩⟩
  · rw [cif_n hx]
    refine ew_aload_n (M := mX9_drop) dX9_drop_0 rfl (Or.inr (Or.inl ⟨_, rfl⟩)) ?_
    refine ew_get (M := mX9_drop) dX9_drop_1 fX9_19 (by repeat (first | with_reducible assumption | refine ex_eq ?_ | refine ex_ne ?_ (by omega) | exact ex_lt (by with_reducible assumption) | rw [List.length_set] | assumption)) (by rfl) ?_
    refine ew_get (M := mX9_drop) dX9_drop_4 fX9_120 (by repeat (first | with_reducible assumption | refine ex_eq ?_ | refine ex_ne ?_ (by omega) | exact ex_lt (by with_reducible assumption) | rw [List.length_set] | assumption)) (by rfl) ?_
    refine ew_iload_n (M := mX9_drop) dX9_drop_7 rfl ?_
    refine ew_callV (M := mX9_drop) dX9_drop_8 vX9_167 (by repeat (first | with_reducible assumption | refine ex_eq ?_ | refine ex_ne ?_ (by omega) | exact ex_lt (by with_reducible assumption) | rw [List.length_set] | assumption)) rfl (sp_numbered_n b5 hx) rfl (Nat.le_of_ble_eq_true rfl) ⟨Nat.le_refl _, Nat.le_refl _⟩ rfl (fun H8 r8 q8 => ?_)
    obtain ⟨rfl, rfl⟩ := q8
    refine ew_ifnonnull (v := none) (M := mX9_drop) (tgt := 17) dX9_drop_11 rfl (fun _ h => by cases h) (fun _ => ?_)
    refine ew_ldc (M := mX9_drop) dX9_drop_14 kX9_141 ?_
    refine ew_iret (M := mX9_drop) dX9_drop_16 rfl (by first | rfl | decide) (Nat.le_refl _) (Nat.le_refl _) ?_
    exact ⟨rfl, ex_ch.rf, hS⟩
def fok (ac dn rk bo wt : Int32) : Prop := (nI 0 ≤ ac ∧ ac ≤ nI 4) ∧ (nI 0 ≤ dn ∧ dn ≤ nI 4) ∧ (nI 0 ≤ rk ∧ rk ≤ nI 100) ∧ (nI 0 ≤ bo ∧ bo ≤ nI 4) ∧ (nI 1 ≤ wt ∧ wt ≤ nI 9)
noncomputable def f_filter (S : SS) (ac dn rk bo wt : Int32) : Int32 × SS := cif (fok ac dn rk bo wt) (cif (S.2.2.1.2.1.1 < 6) (nI S.2.2.1.2.1.1, s_now S (S.2.2.1.1, (S.2.2.1.2.1.1 + 1, va_up S.2.2.1.2.1.2 S.2.2.1.2.1.1 (ac.toNatClampNeg, dn.toNatClampNeg, rk.toNatClampNeg, bo.toNatClampNeg, wt.toNatClampNeg)), S.2.2.1.2.2)) (-1000000004, S)) (-1000000002, S)
theorem sp_Filter {d : Nat} {H : ex_H} {a : Nat} {x1 x2 x3 x4 x5 : Int32} (ha : H[a]? = some (ob 1 [.int 0, .int 0, .int 0, .int 0, .int 0])) : ex_Met mX1_init (d + 1) 0 0 H [.ref a, .int x1, .int x2, .int x3, .int x4, .int x5] (fun H' r => r = none ∧ ex_ch H H' [a] ∧ H'[a]? = some (ob 1 [.int x1, .int x2, .int x3, .int x4, .int x5])) := by
  refine ex_meth [(0, .ref a), (1, .int x1), (2, .int x2), (3, .int x3), (4, .int x4), (5, .int x5)] rfl rfl rfl (fun b => Nat.le_of_ble_eq_true rfl) ?_
  refine ew_aload_n (M := mX1_init) dX1_init_0 rfl (Or.inr (Or.inl ⟨_, rfl⟩)) ?_
  refine ew_objInit (M := mX1_init) dX1_init_1 oX1_1 oi_inst oi_code (by omega) rfl ?_
  refine ew_aload_n (M := mX1_init) dX1_init_4 rfl (Or.inr (Or.inl ⟨_, rfl⟩)) ?_
  refine ew_iload_n (M := mX1_init) dX1_init_5 rfl ?_
  refine ew_putF (M := mX1_init) dX1_init_6 fX1_7 rfl rfl (by repeat (first | with_reducible assumption | refine ex_eq ?_ | refine ex_ne ?_ (by omega) | exact ex_lt (by with_reducible assumption) | rw [List.length_set] | assumption)) (by exact Nat.le_of_ble_eq_true rfl) ⟨rfl, rfl, fun _ h => by cases h⟩ ?_
  refine ew_aload_n (M := mX1_init) dX1_init_9 rfl (Or.inr (Or.inl ⟨_, rfl⟩)) ?_
  refine ew_iload_n (M := mX1_init) dX1_init_10 rfl ?_
  refine ew_putF (M := mX1_init) dX1_init_11 fX1_13 rfl rfl (by repeat (first | with_reducible assumption | refine ex_eq ?_ | refine ex_ne ?_ (by omega) | exact ex_lt (by with_reducible assumption) | rw [List.length_set] | assumption)) (by exact Nat.le_of_ble_eq_true rfl) ⟨rfl, rfl, fun _ h => by cases h⟩ ?_
  refine ew_aload_n (M := mX1_init) dX1_init_14 rfl (Or.inr (Or.inl ⟨_, rfl⟩)) ?_
  refine ew_iload_n (M := mX1_init) dX1_init_15 rfl ?_
  refine ew_putF (M := mX1_init) dX1_init_16 fX1_16 rfl rfl (by repeat (first | with_reducible assumption | refine ex_eq ?_ | refine ex_ne ?_ (by omega) | exact ex_lt (by with_reducible assumption) | rw [List.length_set] | assumption)) (by exact Nat.le_of_ble_eq_true rfl) ⟨rfl, rfl, fun _ h => by cases h⟩ ?_
  refine ew_aload_n (M := mX1_init) dX1_init_19 rfl (Or.inr (Or.inl ⟨_, rfl⟩)) ?_
  refine ew_iload (M := mX1_init) dX1_init_20 rfl ?_
  refine ew_putF (M := mX1_init) dX1_init_22 fX1_19 rfl rfl (by repeat (first | with_reducible assumption | refine ex_eq ?_ | refine ex_ne ?_ (by omega) | exact ex_lt (by with_reducible assumption) | rw [List.length_set] | assumption)) (by exact Nat.le_of_ble_eq_true rfl) ⟨rfl, rfl, fun _ h => by cases h⟩ ?_
  refine ew_aload_n (M := mX1_init) dX1_init_25 rfl (Or.inr (Or.inl ⟨_, rfl⟩)) ?_
  refine ew_iload (M := mX1_init) dX1_init_26 rfl ?_
  refine ew_putF (M := mX1_init) dX1_init_28 fX1_22 rfl rfl (by repeat (first | with_reducible assumption | refine ex_eq ?_ | refine ex_ne ?_ (by omega) | exact ex_lt (by with_reducible assumption) | rw [List.length_set] | assumption)) (by exact Nat.le_of_ble_eq_true rfl) ⟨rfl, rfl, fun _ h => by cases h⟩ ?_
  refine ew_vret (M := mX1_init) dX1_init_31 rfl (Nat.le_refl _) (Nat.le_refl _) ?_
  refine ⟨rfl, ((((ex_ch.rf.set (by simp)).set (by simp)).set (by simp)).set (by simp)).set (by simp), ?_⟩
  exact ex_eq (by rw [List.length_set, List.length_set, List.length_set, List.length_set]; exact ex_lt ha)
theorem cs_filter {d : Nat} {H : ex_H} {S : SS} (hS : cl_is H S) (h98 : 98 ≤ H.length) (ac dn rk bo wt : Int32) : ex_Met mX9_filter (d + 2) 1 5 H [.ref 0, .int ac, .int dn, .int rk, .int bo, .int wt] (fun H' r => r = some (.int (f_filter S ac dn rk bo wt).1) ∧ ex_ch H H' cL ∧ cl_is H' (f_filter S ac dn rk bo wt).2) := by
  obtain ⟨a1, ⟨pl, a2⟩, a3, ⟨fa, a4, a5, a6⟩, a7, a8, ⟨fk, a9, a10⟩, a11, a12, ⟨cw, a13⟩, a14, a15⟩ := id hS
  obtain ⟨b1, b2, b3, b4, b5⟩ := id a3
  obtain ⟨⟨bz, bgm⟩, bgs, bms, ⟨bp1, bp2, bp3⟩, bct⟩ := id b4
  obtain ⟨bz1, bz2, bz3, bz4⟩ := id bz
  obtain ⟨b51, b52, b53⟩ := id b5
  refine ex_meth [(0, .ref 0), (1, .int ac), (2, .int dn), (3, .int rk), (4, .int bo), (5, .int wt)] rfl rfl rfl (fun b => Nat.le_of_ble_eq_true rfl) ?_
  unfold f_filter
  by_cases h1 : nI 0 ≤ ac ∧ ac ≤ nI 4
  · by_cases h2 : nI 0 ≤ dn ∧ dn ≤ nI 4
    · by_cases h3 : nI 0 ≤ rk ∧ rk ≤ nI 100
      · by_cases h4 : nI 0 ≤ bo ∧ bo ≤ nI 4
        · by_cases h5 : nI 1 ≤ wt ∧ wt ≤ nI 9
          · rw [cif_y ⟨h1, h2, h3, h4, h5⟩]
            by_cases hn : S.2.2.1.2.1.1 < 6
            · rw [cif_y hn]
              obtain ⟨n1, g1, rfl⟩ := nI_of3 (by decide) h1
              obtain ⟨n2, g2, rfl⟩ := nI_of3 (by decide) h2
              obtain ⟨n3, g3, rfl⟩ := nI_of3 (by decide) h3
              obtain ⟨n4, g4, rfl⟩ := nI_of3 (by decide) h4
              obtain ⟨n5, g5, rfl⟩ := nI_of3 (by decide) ⟨Int32.le_trans (by decide) h5.1, h5.2⟩
              have g6 : 1 ≤ n5 := (nI_leI (by decide) (by omega)).mp h5.1
              rw [nI_clamp (show n1 < 2 ^ 31 by omega), nI_clamp (show n2 < 2 ^ 31 by omega), nI_clamp (show n3 < 2 ^ 31 by omega), nI_clamp (show n4 < 2 ^ 31 by omega), nI_clamp (show n5 < 2 ^ 31 by omega)]
              refine ew_iload_n (M := mX9_filter) dX9_filter_0 rfl ?_
              refine ew_iconst (M := mX9_filter) dX9_filter_1 (v := nI 0) (by decide) ?_
              refine ew_iconst (M := mX9_filter) dX9_filter_2 (v := nI 4) (by decide) ?_
              refine ew_callS (M := mX9_filter) dX9_filter_3 vX9_66 (sp_within_y h1.1 h1.2) rfl (Nat.le_of_ble_eq_true rfl) ⟨by decide, by decide⟩ rfl (fun H3 r3 q3 => ?_)
              obtain ⟨rfl, rfl⟩ := q3
              refine ew_if_eq (M := mX9_filter) (tgt := 28) dX9_filter_6 rfl (fun h => absurd h (by decide)) (fun _ => ?_)
              refine ew_iload_n (M := mX9_filter) dX9_filter_9 rfl ?_
              refine ew_iconst (M := mX9_filter) dX9_filter_10 (v := nI 0) (by decide) ?_
              refine ew_iconst (M := mX9_filter) dX9_filter_11 (v := nI 4) (by decide) ?_
              refine ew_callS (M := mX9_filter) dX9_filter_12 vX9_66 (sp_within_y h2.1 h2.2) rfl (Nat.le_of_ble_eq_true rfl) ⟨by decide, by decide⟩ rfl (fun H12 r12 q12 => ?_)
              obtain ⟨rfl, rfl⟩ := q12
              refine ew_if_eq (M := mX9_filter) (tgt := 28) dX9_filter_15 rfl (fun h => absurd h (by decide)) (fun _ => ?_)
              refine ew_iload_n (M := mX9_filter) dX9_filter_18 rfl ?_
              refine ew_iconst (M := mX9_filter) dX9_filter_19 (v := nI 0) (by decide) ?_
              refine ew_bipush (M := mX9_filter) dX9_filter_20 (v := nI 100) (by decide) ?_
              refine ew_callS (M := mX9_filter) dX9_filter_22 vX9_66 (sp_within_y h3.1 h3.2) rfl (Nat.le_of_ble_eq_true rfl) ⟨by decide, by decide⟩ rfl (fun H22 r22 q22 => ?_)
              obtain ⟨rfl, rfl⟩ := q22
              refine ew_if_ne (M := mX9_filter) (tgt := 31) dX9_filter_25 rfl (fun _ => ?_) (fun h => absurd h (by decide))
              refine ew_iload (M := mX9_filter) dX9_filter_31 rfl ?_
              refine ew_iconst (M := mX9_filter) dX9_filter_33 (v := nI 0) (by decide) ?_
              refine ew_iconst (M := mX9_filter) dX9_filter_34 (v := nI 4) (by decide) ?_
              refine ew_callS (M := mX9_filter) dX9_filter_35 vX9_66 (sp_within_y h4.1 h4.2) rfl (Nat.le_of_ble_eq_true rfl) ⟨by decide, by decide⟩ rfl (fun H35 r35 q35 => ?_)
              obtain ⟨rfl, rfl⟩ := q35
              refine ew_if_eq (M := mX9_filter) (tgt := 52) dX9_filter_38 rfl (fun h => absurd h (by decide)) (fun _ => ?_)
              refine ew_iload (M := mX9_filter) dX9_filter_41 rfl ?_
              refine ew_iconst (M := mX9_filter) dX9_filter_43 (v := nI 1) (by decide) ?_
              refine ew_bipush (M := mX9_filter) dX9_filter_44 (v := nI 9) (by decide) ?_
              refine ew_callS (M := mX9_filter) dX9_filter_46 vX9_66 (sp_within_y h5.1 h5.2) rfl (Nat.le_of_ble_eq_true rfl) ⟨by decide, by decide⟩ rfl (fun H46 r46 q46 => ?_)
              obtain ⟨rfl, rfl⟩ := q46
              refine ew_if_ne (M := mX9_filter) (tgt := 55) dX9_filter_49 rfl (fun _ => ?_) (fun h => absurd h (by decide))
              refine ew_aload_n (M := mX9_filter) dX9_filter_55 rfl (Or.inr (Or.inl ⟨_, rfl⟩)) ?_
              refine ew_get (M := mX9_filter) dX9_filter_56 fX9_19 (by repeat (first | with_reducible assumption | refine ex_eq ?_ | refine ex_ne ?_ (by omega) | exact ex_lt (by with_reducible assumption) | rw [List.length_set] | assumption)) (by rfl) ?_
              refine ew_get (M := mX9_filter) dX9_filter_59 fX9_120 (by repeat (first | with_reducible assumption | refine ex_eq ?_ | refine ex_ne ?_ (by omega) | exact ex_lt (by with_reducible assumption) | rw [List.length_set] | assumption)) (by rfl) ?_
              refine ew_callV (M := mX9_filter) dX9_filter_62 vX9_153 (by repeat (first | with_reducible assumption | refine ex_eq ?_ | refine ex_ne ?_ (by omega) | exact ex_lt (by with_reducible assumption) | rw [List.length_set] | assumption)) rfl (sp_isFull_n b5 hn) rfl (Nat.le_of_ble_eq_true rfl) ⟨by decide, by decide⟩ rfl (fun H62 r62 q62 => ?_)
              obtain ⟨rfl, rfl⟩ := q62
              refine ew_if_eq (M := mX9_filter) (tgt := 71) dX9_filter_65 rfl (fun _ => ?_) (fun h => absurd rfl h)
              refine ew_aload_n (M := mX9_filter) dX9_filter_71 rfl (Or.inr (Or.inl ⟨_, rfl⟩)) ?_
              refine ew_get (M := mX9_filter) dX9_filter_72 fX9_19 (by repeat (first | with_reducible assumption | refine ex_eq ?_ | refine ex_ne ?_ (by omega) | exact ex_lt (by with_reducible assumption) | rw [List.length_set] | assumption)) (by rfl) ?_
              refine ew_get (M := mX9_filter) dX9_filter_75 fX9_120 (by repeat (first | with_reducible assumption | refine ex_eq ?_ | refine ex_ne ?_ (by omega) | exact ex_lt (by with_reducible assumption) | rw [List.length_set] | assumption)) (by rfl) ?_
              refine ew_new (M := mX9_filter) dX9_filter_78 nX9_158 (by decide) (by decide) ?_
              refine ew_dup (M := mX9_filter) dX9_filter_81 rfl ?_
              refine ew_iload_n (M := mX9_filter) dX9_filter_82 rfl ?_
              refine ew_iload_n (M := mX9_filter) dX9_filter_83 rfl ?_
              refine ew_iload_n (M := mX9_filter) dX9_filter_84 rfl ?_
              refine ew_iload (M := mX9_filter) dX9_filter_85 rfl ?_
              refine ew_iload (M := mX9_filter) dX9_filter_87 rfl ?_
              refine ew_callI (M := mX9_filter) dX9_filter_89 vX9_160 (sp_Filter (List.getElem?_concat_length)) rfl (Nat.le_of_ble_eq_true rfl) ⟨by decide, by decide⟩ rfl (fun H89 r89 q89 => ?_)
              obtain ⟨rfl, hc1, hf1⟩ := q89
              have hc2 : ex_ch H H89 [] := (ex_ch.rf.app).tr hc1 (by simp)
              have b1' := hc2.at b1 (by simp)
              have b5' := b5.ch hc2 (by simp) (by simp) (by simp)
              obtain ⟨b51', b52', b53'⟩ := id b5'
              refine ew_callV (M := mX9_filter) dX9_filter_92 vX9_163 (by repeat (first | with_reducible assumption | refine ex_eq ?_ | refine ex_ne ?_ (by omega) | exact ex_lt (by with_reducible assumption) | rw [List.length_set] | assumption)) rfl (sp_add b5' hn h98 (v := (n1, n2, n3, n4, n5)) ⟨hf1, g1, g2, g3, g4, g6, g5⟩ (by omega)) rfl (Nat.le_of_ble_eq_true rfl) ⟨by decide, by decide⟩ rfl (fun H92 r92 q92 => ?_)
              obtain ⟨rfl, hc3, hf3⟩ := q92
              refine ew_iret (M := mX9_filter) dX9_filter_95 rfl (by first | rfl | decide) (by decide) (by decide) ?_
              have hc4 : ex_ch H H92 [7, 8] := (hc2.sub (by simp)).tr hc3 (by simp)
              exact ⟨rfl, hc4.sub (fun k hk => Or.inl (by rw [cL_mem]; simp at hk; omega)), cl_now hS (hc4.sub (by simp)) ⟨hc4.at b1 (by simp), b2, b3, b4.ch hc4 (by simp) (by simp) (by simp), hf3⟩⟩
            · rw [cif_n hn]
              refine ew_iload_n (M := mX9_filter) dX9_filter_0 rfl ?_
              refine ew_iconst (M := mX9_filter) dX9_filter_1 (v := nI 0) (by decide) ?_
              refine ew_iconst (M := mX9_filter) dX9_filter_2 (v := nI 4) (by decide) ?_
              refine ew_callS (M := mX9_filter) dX9_filter_3 vX9_66 (sp_within_y h1.1 h1.2) rfl (Nat.le_of_ble_eq_true rfl) ⟨by decide, by decide⟩ rfl (fun H3 r3 q3 => ?_)
              obtain ⟨rfl, rfl⟩ := q3
              refine ew_if_eq (M := mX9_filter) (tgt := 28) dX9_filter_6 rfl (fun h => absurd h (by decide)) (fun _ => ?_)
              refine ew_iload_n (M := mX9_filter) dX9_filter_9 rfl ?_
              refine ew_iconst (M := mX9_filter) dX9_filter_10 (v := nI 0) (by decide) ?_
              refine ew_iconst (M := mX9_filter) dX9_filter_11 (v := nI 4) (by decide) ?_
              refine ew_callS (M := mX9_filter) dX9_filter_12 vX9_66 (sp_within_y h2.1 h2.2) rfl (Nat.le_of_ble_eq_true rfl) ⟨by decide, by decide⟩ rfl (fun H12 r12 q12 => ?_)
              obtain ⟨rfl, rfl⟩ := q12
              refine ew_if_eq (M := mX9_filter) (tgt := 28) dX9_filter_15 rfl (fun h => absurd h (by decide)) (fun _ => ?_)
              refine ew_iload_n (M := mX9_filter) dX9_filter_18 rfl ?_
              refine ew_iconst (M := mX9_filter) dX9_filter_19 (v := nI 0) (by decide) ?_
              refine ew_bipush (M := mX9_filter) dX9_filter_20 (v := nI 100) (by decide) ?_
              refine ew_callS (M := mX9_filter) dX9_filter_22 vX9_66 (sp_within_y h3.1 h3.2) rfl (Nat.le_of_ble_eq_true rfl) ⟨by decide, by decide⟩ rfl (fun H22 r22 q22 => ?_)
              obtain ⟨rfl, rfl⟩ := q22
              refine ew_if_ne (M := mX9_filter) (tgt := 31) dX9_filter_25 rfl (fun _ => ?_) (fun h => absurd h (by decide))
              refine ew_iload (M := mX9_filter) dX9_filter_31 rfl ?_
              refine ew_iconst (M := mX9_filter) dX9_filter_33 (v := nI 0) (by decide) ?_
              refine ew_iconst (M := mX9_filter) dX9_filter_34 (v := nI 4) (by decide) ?_
              refine ew_callS (M := mX9_filter) dX9_filter_35 vX9_66 (sp_within_y h4.1 h4.2) rfl (Nat.le_of_ble_eq_true rfl) ⟨by decide, by decide⟩ rfl (fun H35 r35 q35 => ?_)
              obtain ⟨rfl, rfl⟩ := q35
              refine ew_if_eq (M := mX9_filter) (tgt := 52) dX9_filter_38 rfl (fun h => absurd h (by decide)) (fun _ => ?_)
              refine ew_iload (M := mX9_filter) dX9_filter_41 rfl ?_
              refine ew_iconst (M := mX9_filter) dX9_filter_43 (v := nI 1) (by decide) ?_
              refine ew_bipush (M := mX9_filter) dX9_filter_44 (v := nI 9) (by decide) ?_
              refine ew_callS (M := mX9_filter) dX9_filter_46 vX9_66 (sp_within_y h5.1 h5.2) rfl (Nat.le_of_ble_eq_true rfl) ⟨by decide, by decide⟩ rfl (fun H46 r46 q46 => ?_)
              obtain ⟨rfl, rfl⟩ := q46
              refine ew_if_ne (M := mX9_filter) (tgt := 55) dX9_filter_49 rfl (fun _ => ?_) (fun h => absurd h (by decide))
              refine ew_aload_n (M := mX9_filter) dX9_filter_55 rfl (Or.inr (Or.inl ⟨_, rfl⟩)) ?_
              refine ew_get (M := mX9_filter) dX9_filter_56 fX9_19 (by repeat (first | with_reducible assumption | refine ex_eq ?_ | refine ex_ne ?_ (by omega) | exact ex_lt (by with_reducible assumption) | rw [List.length_set] | assumption)) (by rfl) ?_
              refine ew_get (M := mX9_filter) dX9_filter_59 fX9_120 (by repeat (first | with_reducible assumption | refine ex_eq ?_ | refine ex_ne ?_ (by omega) | exact ex_lt (by with_reducible assumption) | rw [List.length_set] | assumption)) (by rfl) ?_
              refine ew_callV (M := mX9_filter) dX9_filter_62 vX9_153 (by repeat (first | with_reducible assumption | refine ex_eq ?_ | refine ex_ne ?_ (by omega) | exact ex_lt (by with_reducible assumption) | rw [List.length_set] | assumption)) rfl (sp_isFull_y b5 (by omega)) rfl (Nat.le_of_ble_eq_true rfl) ⟨by decide, by decide⟩ rfl (fun H62 r62 q62 => ?_)
              obtain ⟨rfl, rfl⟩ := q62
              refine ew_if_eq (M := mX9_filter) (tgt := 71) dX9_filter_65 rfl (fun h => absurd h (by decide)) (fun _ => ?_)
              refine ew_ldc (M := mX9_filter) dX9_filter_68 kX9_157 ?_
              refine ew_iret (M := mX9_filter) dX9_filter_70 rfl (by first | rfl | decide) (by decide) (by decide) ?_
              exact ⟨rfl, ex_ch.rf, hS⟩
          · rw [cif_n (fun q => h5 q.2.2.2.2)]
            refine ew_iload_n (M := mX9_filter) dX9_filter_0 rfl ?_
            refine ew_iconst (M := mX9_filter) dX9_filter_1 (v := nI 0) (by decide) ?_
            refine ew_iconst (M := mX9_filter) dX9_filter_2 (v := nI 4) (by decide) ?_
            refine ew_callS (M := mX9_filter) dX9_filter_3 vX9_66 (sp_within_y h1.1 h1.2) rfl (Nat.le_of_ble_eq_true rfl) ⟨by decide, by decide⟩ rfl (fun H3 r3 q3 => ?_)
            obtain ⟨rfl, rfl⟩ := q3
            refine ew_if_eq (M := mX9_filter) (tgt := 28) dX9_filter_6 rfl (fun h => absurd h (by decide)) (fun _ => ?_)
            refine ew_iload_n (M := mX9_filter) dX9_filter_9 rfl ?_
            refine ew_iconst (M := mX9_filter) dX9_filter_10 (v := nI 0) (by decide) ?_
            refine ew_iconst (M := mX9_filter) dX9_filter_11 (v := nI 4) (by decide) ?_
            refine ew_callS (M := mX9_filter) dX9_filter_12 vX9_66 (sp_within_y h2.1 h2.2) rfl (Nat.le_of_ble_eq_true rfl) ⟨by decide, by decide⟩ rfl (fun H12 r12 q12 => ?_)
            obtain ⟨rfl, rfl⟩ := q12
            refine ew_if_eq (M := mX9_filter) (tgt := 28) dX9_filter_15 rfl (fun h => absurd h (by decide)) (fun _ => ?_)
            refine ew_iload_n (M := mX9_filter) dX9_filter_18 rfl ?_
            refine ew_iconst (M := mX9_filter) dX9_filter_19 (v := nI 0) (by decide) ?_
            refine ew_bipush (M := mX9_filter) dX9_filter_20 (v := nI 100) (by decide) ?_
            refine ew_callS (M := mX9_filter) dX9_filter_22 vX9_66 (sp_within_y h3.1 h3.2) rfl (Nat.le_of_ble_eq_true rfl) ⟨by decide, by decide⟩ rfl (fun H22 r22 q22 => ?_)
            obtain ⟨rfl, rfl⟩ := q22
            refine ew_if_ne (M := mX9_filter) (tgt := 31) dX9_filter_25 rfl (fun _ => ?_) (fun h => absurd h (by decide))
            refine ew_iload (M := mX9_filter) dX9_filter_31 rfl ?_
            refine ew_iconst (M := mX9_filter) dX9_filter_33 (v := nI 0) (by decide) ?_
            refine ew_iconst (M := mX9_filter) dX9_filter_34 (v := nI 4) (by decide) ?_
            refine ew_callS (M := mX9_filter) dX9_filter_35 vX9_66 (sp_within_y h4.1 h4.2) rfl (Nat.le_of_ble_eq_true rfl) ⟨by decide, by decide⟩ rfl (fun H35 r35 q35 => ?_)
            obtain ⟨rfl, rfl⟩ := q35
            refine ew_if_eq (M := mX9_filter) (tgt := 52) dX9_filter_38 rfl (fun h => absurd h (by decide)) (fun _ => ?_)
            refine ew_iload (M := mX9_filter) dX9_filter_41 rfl ?_
            refine ew_iconst (M := mX9_filter) dX9_filter_43 (v := nI 1) (by decide) ?_
            refine ew_bipush (M := mX9_filter) dX9_filter_44 (v := nI 9) (by decide) ?_
            refine ew_callS (M := mX9_filter) dX9_filter_46 vX9_66 (sp_within_n h5) rfl (Nat.le_of_ble_eq_true rfl) ⟨by decide, by decide⟩ rfl (fun H46 r46 q46 => ?_)
            obtain ⟨rfl, rfl⟩ := q46
            refine ew_if_ne (M := mX9_filter) (tgt := 55) dX9_filter_49 rfl (fun h => absurd rfl h) (fun _ => ?_)
            refine ew_ldc (M := mX9_filter) dX9_filter_52 kX9_70 ?_
            refine ew_iret (M := mX9_filter) dX9_filter_54 rfl (by first | rfl | decide) (by decide) (by decide) ?_
            exact ⟨rfl, ex_ch.rf, hS⟩
        · rw [cif_n (fun q => h4 q.2.2.2.1)]
          refine ew_iload_n (M := mX9_filter) dX9_filter_0 rfl ?_
          refine ew_iconst (M := mX9_filter) dX9_filter_1 (v := nI 0) (by decide) ?_
          refine ew_iconst (M := mX9_filter) dX9_filter_2 (v := nI 4) (by decide) ?_
          refine ew_callS (M := mX9_filter) dX9_filter_3 vX9_66 (sp_within_y h1.1 h1.2) rfl (Nat.le_of_ble_eq_true rfl) ⟨by decide, by decide⟩ rfl (fun H3 r3 q3 => ?_)
          obtain ⟨rfl, rfl⟩ := q3
          refine ew_if_eq (M := mX9_filter) (tgt := 28) dX9_filter_6 rfl (fun h => absurd h (by decide)) (fun _ => ?_)
          refine ew_iload_n (M := mX9_filter) dX9_filter_9 rfl ?_
          refine ew_iconst (M := mX9_filter) dX9_filter_10 (v := nI 0) (by decide) ?_
          refine ew_iconst (M := mX9_filter) dX9_filter_11 (v := nI 4) (by decide) ?_
          refine ew_callS (M := mX9_filter) dX9_filter_12 vX9_66 (sp_within_y h2.1 h2.2) rfl (Nat.le_of_ble_eq_true rfl) ⟨by decide, by decide⟩ rfl (fun H12 r12 q12 => ?_)
          obtain ⟨rfl, rfl⟩ := q12
          refine ew_if_eq (M := mX9_filter) (tgt := 28) dX9_filter_15 rfl (fun h => absurd h (by decide)) (fun _ => ?_)
          refine ew_iload_n (M := mX9_filter) dX9_filter_18 rfl ?_
          refine ew_iconst (M := mX9_filter) dX9_filter_19 (v := nI 0) (by decide) ?_
          refine ew_bipush (M := mX9_filter) dX9_filter_20 (v := nI 100) (by decide) ?_
          refine ew_callS (M := mX9_filter) dX9_filter_22 vX9_66 (sp_within_y h3.1 h3.2) rfl (Nat.le_of_ble_eq_true rfl) ⟨by decide, by decide⟩ rfl (fun H22 r22 q22 => ?_)
          obtain ⟨rfl, rfl⟩ := q22
          refine ew_if_ne (M := mX9_filter) (tgt := 31) dX9_filter_25 rfl (fun _ => ?_) (fun h => absurd h (by decide))
          refine ew_iload (M := mX9_filter) dX9_filter_31 rfl ?_
          refine ew_iconst (M := mX9_filter) dX9_filter_33 (v := nI 0) (by decide) ?_
          refine ew_iconst (M := mX9_filter) dX9_filter_34 (v := nI 4) (by decide) ?_
          refine ew_callS (M := mX9_filter) dX9_filter_35 vX9_66 (sp_within_n h4) rfl (Nat.le_of_ble_eq_true rfl) ⟨by decide, by decide⟩ rfl (fun H35 r35 q35 => ?_)
          obtain ⟨rfl, rfl⟩ := q35
          refine ew_if_eq (M := mX9_filter) (tgt := 52) dX9_filter_38 rfl (fun _ => ?_) (fun h => absurd rfl h)
          refine ew_ldc (M := mX9_filter) dX9_filter_52 kX9_70 ?_
          refine ew_iret (M := mX9_filter) dX9_filter_54 rfl (by first | rfl | decide) (by decide) (by decide) ?_
          exact ⟨rfl, ex_ch.rf, hS⟩
      · rw [cif_n (fun q => h3 q.2.2.1)]
        refine ew_iload_n (M := mX9_filter) dX9_filter_0 rfl ?_
        refine ew_iconst (M := mX9_filter) dX9_filter_1 (v := nI 0) (by decide) ?_
        refine ew_iconst (M := mX9_filter) dX9_filter_2 (v := nI 4) (by decide) ?_
        refine ew_callS (M := mX9_filter) dX9_filter_3 vX9_66 (sp_within_y h1.1 h1.2) rfl (Nat.le_of_ble_eq_true rfl) ⟨by decide, by decide⟩ rfl (fun H3 r3 q3 => ?_)
        obtain ⟨rfl, rfl⟩ := q3
        refine ew_if_eq (M := mX9_filter) (tgt := 28) dX9_filter_6 rfl (fun h => absurd h (by decide)) (fun _ => ?_)
        refine ew_iload_n (M := mX9_filter) dX9_filter_9 rfl ?_
        refine ew_iconst (M := mX9_filter) dX9_filter_10 (v := nI 0) (by decide) ?_
        refine ew_iconst (M := mX9_filter) dX9_filter_11 (v := nI 4) (by decide) ?_
        refine ew_callS (M := mX9_filter) dX9_filter_12 vX9_66 (sp_within_y h2.1 h2.2) rfl (Nat.le_of_ble_eq_true rfl) ⟨by decide, by decide⟩ rfl (fun H12 r12 q12 => ?_)
        obtain ⟨rfl, rfl⟩ := q12
        refine ew_if_eq (M := mX9_filter) (tgt := 28) dX9_filter_15 rfl (fun h => absurd h (by decide)) (fun _ => ?_)
        refine ew_iload_n (M := mX9_filter) dX9_filter_18 rfl ?_
        refine ew_iconst (M := mX9_filter) dX9_filter_19 (v := nI 0) (by decide) ?_
        refine ew_bipush (M := mX9_filter) dX9_filter_20 (v := nI 100) (by decide) ?_
        refine ew_callS (M := mX9_filter) dX9_filter_22 vX9_66 (sp_within_n h3) rfl (Nat.le_of_ble_eq_true rfl) ⟨by decide, by decide⟩ rfl (fun H22 r22 q22 => ?_)
        obtain ⟨rfl, rfl⟩ := q22
        refine ew_if_ne (M := mX9_filter) (tgt := 31) dX9_filter_25 rfl (fun h => absurd rfl h) (fun _ => ?_)
        refine ew_ldc (M := mX9_filter) dX9_filter_28 kX9_70 ?_
        refine ew_iret (M := mX9_filter) dX9_filter_30 rfl (by first | rfl | decide) (by decide) (by decide) ?_
        exact ⟨rfl, ex_ch.rf, hS⟩
    · rw [cif_n (fun q => h2 q.2.1)]
      refine ew_iload_n (M := mX9_filter) dX9_filter_0 rfl ?_
      refine ew_iconst (M := mX9_filter) dX9_filter_1 (v := nI 0) (by decide) ?_
      refine ew_iconst (M := mX9_filter) dX9_filter_2 (v := nI 4) (by decide) ?_
      refine ew_callS (M := mX9_filter) dX9_filter_3 vX9_66 (sp_within_y h1.1 h1.2) rfl (Nat.le_of_ble_eq_true rfl) ⟨by decide, by decide⟩ rfl (fun H3 r3 q3 => ?_)
      obtain ⟨rfl, rfl⟩ := q3
      refine ew_if_eq (M := mX9_filter) (tgt := 28) dX9_filter_6 rfl (fun h => absurd h (by decide)) (fun _ => ?_)
      refine ew_iload_n (M := mX9_filter) dX9_filter_9 rfl ?_
      refine ew_iconst (M := mX9_filter) dX9_filter_10 (v := nI 0) (by decide) ?_
      refine ew_iconst (M := mX9_filter) dX9_filter_11 (v := nI 4) (by decide) ?_
      refine ew_callS (M := mX9_filter) dX9_filter_12 vX9_66 (sp_within_n h2) rfl (Nat.le_of_ble_eq_true rfl) ⟨by decide, by decide⟩ rfl (fun H12 r12 q12 => ?_)
      obtain ⟨rfl, rfl⟩ := q12
      refine ew_if_eq (M := mX9_filter) (tgt := 28) dX9_filter_15 rfl (fun _ => ?_) (fun h => absurd rfl h)
      refine ew_ldc (M := mX9_filter) dX9_filter_28 kX9_70 ?_
      refine ew_iret (M := mX9_filter) dX9_filter_30 rfl (by first | rfl | decide) (by decide) (by decide) ?_
      exact ⟨rfl, ex_ch.rf, hS⟩
  · rw [cif_n (fun q => h1 q.1)]
    refine ew_iload_n (M := mX9_filter) dX9_filter_0 rfl ?_
    refine ew_iconst (M := mX9_filter) dX9_filter_1 (v := nI 0) (by decide) ?_
    refine ew_iconst (M := mX9_filter) dX9_filter_2 (v := nI 4) (by decide) ?_
    refine ew_callS (M := mX9_filter) dX9_filter_3 vX9_66 (sp_within_n h1) rfl (Nat.le_of_ble_eq_true rfl) ⟨by decide, by decide⟩ rfl (fun H3 r3 q3 => ?_)
    obtain ⟨rfl, rfl⟩ := q3
    refine ew_if_eq (M := mX9_filter) (tgt := 28) dX9_filter_6 rfl (fun _ => ?_) (fun h => absurd rfl h)
    refine ew_ldc (M := mX9_filter) dX9_filter_28 kX9_70 ?_
    refine ew_iret (M := mX9_filter) dX9_filter_30 rfl (by first | rfl | decide) (by decide) (by decide) ?_
    exact ⟨rfl, ex_ch.rf, hS⟩
