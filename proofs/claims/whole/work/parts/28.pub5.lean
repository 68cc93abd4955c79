noncomputable def deed (S : SS) (P : PT) : SS := s_pic (s_rem S) P
noncomputable def f_dot (S : SS) (x y g : Int32) : Int32 × SS := cif (pi_in S.2.2.1.1.1 S.2.2.1.1.2.1 x y) (cif (nI 0 ≤ g ∧ g ≤ nI 255) (nI (S.2.2.1.1.2.2.1 (y.toNatClampNeg * S.2.2.1.1.1 + x.toNatClampNeg)), deed S (S.2.2.1.1.1, S.2.2.1.1.2.1, va_up S.2.2.1.1.2.2.1 (y.toNatClampNeg * S.2.2.1.1.1 + x.toNatClampNeg) g.toNatClampNeg, S.2.2.1.1.2.2.2)) (-1000000002, S)) (-1000000001, S)
theorem cl_pic1 {H H' : ex_H} {S : SS} {P : PT} (hS : cl_is H S) (hc : ex_ch H H' [4, 5, 6]) (hp : pis H' 4 P) : cl_is H' (s_pic S P) := by
  obtain ⟨a1, ⟨pl, a2⟩, a3, ⟨fa, a4, a5, a6⟩, a7, a8, ⟨fk, a9, a10⟩, a11, a12, ⟨cw, a13⟩, a14, a15⟩ := id hS
  exact cl_pic hS (hc.sub (by simp)) hp ⟨cw, a13.ch hc (by simp) (by simp) (by simp)⟩ (a14.ch hc (by simp) (by simp) (by simp)) (a15.ch hc (by simp) (by simp) (by simp))
theorem cs_dot {d : Nat} {H : ex_H} {S : SS} (hS : cl_is H S) (x y g : Int32) : ex_Met mX9_dot (d + 4) 0 0 H [.ref 0, .int x, .int y, .int g] (fun H' r => r = some (.int (f_dot S x y g).1) ∧ ex_ch H H' cL ∧ cl_is H' (f_dot S x y g).2) := by
  obtain ⟨a1, ⟨pl, a2⟩, a3, ⟨fa, a4, a5, a6⟩, a7, a8, ⟨fk, a9, a10⟩, a11, a12, ⟨cw, a13⟩, a14, a15⟩ := id hS
  obtain ⟨b1, b2, b3, b4, b5⟩ := id a3
  obtain ⟨⟨bz, bgm⟩, bgs, bms, ⟨bp1, bp2, bp3⟩, bct⟩ := id b4
  obtain ⟨bz1, bz2, bz3, bz4⟩ := id bz
  obtain ⟨-, -, -, old, -, a111, -⟩ := id a11

  refine ex_meth [(0, .ref 0), (1, .int x), (2, .int y), (3, .int g)] rfl rfl rfl (fun b => Nat.le_of_ble_eq_true rfl) ?_
  unfold f_dot
  by_cases hin : pi_in S.2.2.1.1.1 S.2.2.1.1.2.1 x y
  · rw [cif_y hin]
    obtain ⟨i, j, rfl, hi, rfl, hj⟩ := id hin
    rw [nI_clamp (show i < 2 ^ 31 by omega), nI_clamp (show j < 2 ^ 31 by omega)]
    by_cases hx : nI 0 ≤ g ∧ g ≤ nI 255
    · rw [cif_y hx]
      obtain ⟨v, hv, rfl⟩ := nI_of3 (by decide) hx
      rw [nI_clamp (show v < 2 ^ 31 by omega)]
      refine ew_aload_n (M := mX9_dot) dX9_dot_0 rfl (Or.inr (Or.inl ⟨_, rfl⟩)) ?_
      refine ew_get (M := mX9_dot) dX9_dot_1 fX9_19 (by repeat (first | with_reducible assumption | refine ex_eq ?_ | refine ex_ne ?_ (by omega) | exact ex_lt (by with_reducible assumption) | rw [List.length_set] | assumption)) (by rfl) ?_
      refine ew_get (M := mX9_dot) dX9_dot_4 fX9_86 (by repeat (first | with_reducible assumption | refine ex_eq ?_ | refine ex_ne ?_ (by omega) | exact ex_lt (by with_reducible assumption) | rw [List.length_set] | assumption)) (by rfl) ?_
      refine ew_iload_n (M := mX9_dot) dX9_dot_7 rfl ?_
      refine ew_iload_n (M := mX9_dot) dX9_dot_8 rfl ?_
      refine ew_callV (M := mX9_dot) dX9_dot_9 vX9_137 (by repeat (first | with_reducible assumption | refine ex_eq ?_ | refine ex_ne ?_ (by omega) | exact ex_lt (by with_reducible assumption) | rw [List.length_set] | assumption)) rfl (sp_has_y b4 hi hj) rfl (Nat.le_of_ble_eq_true rfl) ⟨Nat.le_refl _, Nat.le_refl _⟩ rfl (fun H9 r9 q9 => ?_)
      obtain ⟨rfl, rfl⟩ := q9
      refine ew_if_ne (M := mX9_dot) (tgt := 18) dX9_dot_12 rfl (fun _ => ?_) (fun h => absurd h (by decide))
      refine ew_iload_n (M := mX9_dot) dX9_dot_18 rfl ?_
      refine ew_iconst (M := mX9_dot) dX9_dot_19 (v := nI 0) (by decide) ?_
      refine ew_sipush (M := mX9_dot) dX9_dot_20 (v := nI 255) (by decide) ?_
      refine ew_callS (M := mX9_dot) dX9_dot_23 vX9_66 (sp_within_y hx.1 hx.2) rfl (Nat.le_of_ble_eq_true rfl) ⟨Nat.le_refl _, Nat.le_refl _⟩ rfl (fun H23 r23 q23 => ?_)
      obtain ⟨rfl, rfl⟩ := q23
      refine ew_if_ne (M := mX9_dot) (tgt := 32) dX9_dot_26 rfl (fun _ => ?_) (fun h => absurd h (by decide))
      refine ew_aload_n (M := mX9_dot) dX9_dot_32 rfl (Or.inr (Or.inl ⟨_, rfl⟩)) ?_
      refine ew_get (M := mX9_dot) dX9_dot_33 fX9_34 (by repeat (first | with_reducible assumption | refine ex_eq ?_ | refine ex_ne ?_ (by omega) | exact ex_lt (by with_reducible assumption) | rw [List.length_set] | assumption)) (by rfl) ?_
      refine ew_aload_n (M := mX9_dot) dX9_dot_36 rfl (Or.inr (Or.inl ⟨_, rfl⟩)) ?_
      refine ew_get (M := mX9_dot) dX9_dot_37 fX9_19 (by repeat (first | with_reducible assumption | refine ex_eq ?_ | refine ex_ne ?_ (by omega) | exact ex_lt (by with_reducible assumption) | rw [List.length_set] | assumption)) (by rfl) ?_
      refine ew_get (M := mX9_dot) dX9_dot_40 fX9_86 (by repeat (first | with_reducible assumption | refine ex_eq ?_ | refine ex_ne ?_ (by omega) | exact ex_lt (by with_reducible assumption) | rw [List.length_set] | assumption)) (by rfl) ?_
      refine ew_callV (M := mX9_dot) dX9_dot_43 vX9_89 (by repeat (first | with_reducible assumption | refine ex_eq ?_ | refine ex_ne ?_ (by omega) | exact ex_lt (by with_reducible assumption) | rw [List.length_set] | assumption)) rfl (sp_remember a11 b4 (by omega)) rfl (Nat.le_of_ble_eq_true rfl) ⟨Nat.le_refl _, Nat.le_refl _⟩ rfl (fun H43 r43 q43 => ?_)
      obtain ⟨rfl, hc1, hh1⟩ := q43
      have hS1 : cl_is H43 (s_rem S) := cl_hist hS hc1 hh1
      have hq1 : ex_ch H H43 cL := hc1.sub (fun k hk => Or.inl (by rw [cL_mem]; rw [hiL_mem] at hk; omega))
      obtain ⟨e1, ⟨epl, e2⟩, e3, ⟨efa, e4, e5, e6⟩, e7, e8, ⟨efk, e9, e10⟩, e11, e12, ⟨ecw, e13⟩, e14, e15⟩ := id hS1
      obtain ⟨g1, g2, g3, g4, g5⟩ := id e3
      have g4 : pis H43 4 S.2.2.1.1 := g4
      obtain ⟨-, ggs, gms, ⟨gp1, gp2, gp3⟩, -⟩ := id g4
      obtain ⟨g51, g52, g53⟩ := id g5
      have e1 : H43[0]? = some (ob 9 [.ref 1, .ref 3, .ref 9, .ref 22, .ref 23, .ref 73, .ref 77, .ref 80, .ref 83, .int S.2.1]) := e1
      have g1 : H43[3]? = some (ob 6 [.ref 4, .ref 7, .int (nI S.2.2.1.2.2.1), .int (nI S.2.2.1.2.2.2)]) := g1
      refine ew_aload_n (M := mX9_dot) dX9_dot_46 rfl (Or.inr (Or.inl ⟨_, rfl⟩)) ?_
      refine ew_get (M := mX9_dot) dX9_dot_47 fX9_19 (by repeat (first | with_reducible assumption | refine ex_eq ?_ | refine ex_ne ?_ (by omega) | exact ex_lt (by with_reducible assumption) | rw [List.length_set] | assumption)) (by rfl) ?_
      refine ew_get (M := mX9_dot) dX9_dot_50 fX9_86 (by repeat (first | with_reducible assumption | refine ex_eq ?_ | refine ex_ne ?_ (by omega) | exact ex_lt (by with_reducible assumption) | rw [List.length_set] | assumption)) (by rfl) ?_
      refine ew_iload_n (M := mX9_dot) dX9_dot_53 rfl ?_
      refine ew_iload_n (M := mX9_dot) dX9_dot_54 rfl ?_
      refine ew_callV (M := mX9_dot) dX9_dot_55 vX9_142 (by repeat (first | with_reducible assumption | refine ex_eq ?_ | refine ex_ne ?_ (by omega) | exact ex_lt (by with_reducible assumption) | rw [List.length_set] | assumption)) rfl (sp_greyOf g4 hi hj) rfl (Nat.le_of_ble_eq_true rfl) ⟨Nat.le_refl _, Nat.le_refl _⟩ rfl (fun H55 r55 q55 => ?_)
      obtain ⟨rfl, rfl⟩ := q55
      refine ew_istore (M := mX9_dot) dX9_dot_58 (by decide) rfl ?_
      refine ew_aload_n (M := mX9_dot) dX9_dot_60 rfl (Or.inr (Or.inl ⟨_, rfl⟩)) ?_
      refine ew_get (M := mX9_dot) dX9_dot_61 fX9_19 (by repeat (first | with_reducible assumption | refine ex_eq ?_ | refine ex_ne ?_ (by omega) | exact ex_lt (by with_reducible assumption) | rw [List.length_set] | assumption)) (by rfl) ?_
      refine ew_get (M := mX9_dot) dX9_dot_64 fX9_86 (by repeat (first | with_reducible assumption | refine ex_eq ?_ | refine ex_ne ?_ (by omega) | exact ex_lt (by with_reducible assumption) | rw [List.length_set] | assumption)) (by rfl) ?_
      refine ew_iload_n (M := mX9_dot) dX9_dot_67 rfl ?_
      refine ew_iload_n (M := mX9_dot) dX9_dot_68 rfl ?_
      refine ew_iload_n (M := mX9_dot) dX9_dot_69 rfl ?_
      refine ew_callV (M := mX9_dot) dX9_dot_70 vX9_202 (by repeat (first | with_reducible assumption | refine ex_eq ?_ | refine ex_ne ?_ (by omega) | exact ex_lt (by with_reducible assumption) | rw [List.length_set] | assumption)) rfl (sp_setGrey g4 hi hj (show v < 256 by omega)) rfl (Nat.le_of_ble_eq_true rfl) ⟨Nat.le_refl _, Nat.le_refl _⟩ rfl (fun H70 r70 q70 => ?_)
      obtain ⟨rfl, hc2, hp2⟩ := q70
      refine ew_iload (M := mX9_dot) dX9_dot_73 rfl ?_
      refine ew_iret (M := mX9_dot) dX9_dot_75 rfl (by first | rfl | decide) (Nat.le_refl _) (Nat.le_refl _) ?_
      exact ⟨rfl, hq1.tr hc2 (fun k hk => Or.inl (by rw [cL_mem]; simp at hk; omega)), cl_pic1 hS1 (hc2.sub (by simp)) hp2⟩
    · rw [cif_n hx]
      refine ew_aload_n (M := mX9_dot) dX9_dot_0 rfl (Or.inr (Or.inl ⟨_, rfl⟩)) ?_
      refine ew_get (M := mX9_dot) dX9_dot_1 fX9_19 (by repeat (first | with_reducible assumption | refine ex_eq ?_ | refine ex_ne ?_ (by omega) | exact ex_lt (by with_reducible assumption) | rw [List.length_set] | assumption)) (by rfl) ?_
      refine ew_get (M := mX9_dot) dX9_dot_4 fX9_86 (by repeat (first | with_reducible assumption | refine ex_eq ?_ | refine ex_ne ?_ (by omega) | exact ex_lt (by with_reducible assumption) | rw [List.length_set] | assumption)) (by rfl) ?_
      refine ew_iload_n (M := mX9_dot) dX9_dot_7 rfl ?_
      refine ew_iload_n (M := mX9_dot) dX9_dot_8 rfl ?_
      refine ew_callV (M := mX9_dot) dX9_dot_9 vX9_137 (by repeat (first | with_reducible assumption | refine ex_eq ?_ | refine ex_ne ?_ (by omega) | exact ex_lt (by with_reducible assumption) | rw [List.length_set] | assumption)) rfl (sp_has_y b4 hi hj) rfl (Nat.le_of_ble_eq_true rfl) ⟨Nat.le_refl _, Nat.le_refl _⟩ rfl (fun H9 r9 q9 => ?_)
      obtain ⟨rfl, rfl⟩ := q9
      refine ew_if_ne (M := mX9_dot) (tgt := 18) dX9_dot_12 rfl (fun _ => ?_) (fun h => absurd h (by decide))
      refine ew_iload_n (M := mX9_dot) dX9_dot_18 rfl ?_
      refine ew_iconst (M := mX9_dot) dX9_dot_19 (v := nI 0) (by decide) ?_
      refine ew_sipush (M := mX9_dot) dX9_dot_20 (v := nI 255) (by decide) ?_
      refine ew_callS (M := mX9_dot) dX9_dot_23 vX9_66 (sp_within_n hx) rfl (Nat.le_of_ble_eq_true rfl) ⟨Nat.le_refl _, Nat.le_refl _⟩ rfl (fun H23 r23 q23 => ?_)
      obtain ⟨rfl, rfl⟩ := q23
      refine ew_if_ne (M := mX9_dot) (tgt := 32) dX9_dot_26 rfl (fun h => absurd rfl h) (fun _ => ?_)
      refine ew_ldc (M := mX9_dot) dX9_dot_29 kX9_70 ?_
      refine ew_iret (M := mX9_dot) dX9_dot_31 rfl (by first | rfl | decide) (Nat.le_refl _) (Nat.le_refl _) ?_
      exact ⟨rfl, ex_ch.rf, hS⟩
  · rw [cif_n hin]
    refine ew_aload_n (M := mX9_dot) dX9_dot_0 rfl (Or.inr (Or.inl ⟨_, rfl⟩)) ?_
    refine ew_get (M := mX9_dot) dX9_dot_1 fX9_19 (by repeat (first | with_reducible assumption | refine ex_eq ?_ | refine ex_ne ?_ (by omega) | exact ex_lt (by with_reducible assumption) | rw [List.length_set] | assumption)) (by rfl) ?_
    refine ew_get (M := mX9_dot) dX9_dot_4 fX9_86 (by repeat (first | with_reducible assumption | refine ex_eq ?_ | refine ex_ne ?_ (by omega) | exact ex_lt (by with_reducible assumption) | rw [List.length_set] | assumption)) (by rfl) ?_
    refine ew_iload_n (M := mX9_dot) dX9_dot_7 rfl ?_
    refine ew_iload_n (M := mX9_dot) dX9_dot_8 rfl ?_
    refine ew_callV (M := mX9_dot) dX9_dot_9 vX9_137 (by repeat (first | with_reducible assumption | refine ex_eq ?_ | refine ex_ne ?_ (by omega) | exact ex_lt (by with_reducible assumption) | rw [List.length_set] | assumption)) rfl (sp_has_n b4 hin) rfl (Nat.le_of_ble_eq_true rfl) ⟨Nat.le_refl _, Nat.le_refl _⟩ rfl (fun H9 r9 q9 => ?_)
    obtain ⟨rfl, rfl⟩ := q9
    refine ew_if_ne (M := mX9_dot) (tgt := 18) dX9_dot_12 rfl (fun h => absurd rfl h) (fun _ => ?_)
    refine ew_ldc (M := mX9_dot) dX9_dot_15 kX9_141 ?_
    refine ew_iret (M := mX9_dot) dX9_dot_17 rfl (by first | rfl | decide) (Nat.le_refl _) (Nat.le_refl _) ?_
    exact ⟨rfl, ex_ch.rf, hS⟩
noncomputable def f_mask (S : SS) (x y : Int32) (b : Nat) : Int32 × SS := cif (pi_in S.2.2.1.1.1 S.2.2.1.1.2.1 x y) (nI (pm_masked S.2.2.1.1.1 S.2.2.1.1.2.1 (va_up S.2.2.1.1.2.2.2 (y.toNatClampNeg * S.2.2.1.1.1 + x.toNatClampNeg) b)), deed S (S.2.2.1.1.1, S.2.2.1.1.2.1, S.2.2.1.1.2.2.1, va_up S.2.2.1.1.2.2.2 (y.toNatClampNeg * S.2.2.1.1.1 + x.toNatClampNeg) b)) (-1000000001, S)
theorem cs_mask {d : Nat} {H : ex_H} {S : SS} (hS : cl_is H S) (x y : Int32) {b : Nat} (hb : b < 2) : ex_Met mX9_mask (d + 4) 0 0 H [.ref 0, .int x, .int y, .int (nI b)] (fun H' r => r = some (.int (f_mask S x y b).1) ∧ ex_ch H H' cL ∧ cl_is H' (f_mask S x y b).2) := by
  obtain ⟨a1, ⟨pl, a2⟩, a3, ⟨fa, a4, a5, a6⟩, a7, a8, ⟨fk, a9, a10⟩, a11, a12, ⟨cw, a13⟩, a14, a15⟩ := id hS
  obtain ⟨b1, b2, b3, b4, b5⟩ := id a3
  obtain ⟨⟨bz, bgm⟩, bgs, bms, ⟨bp1, bp2, bp3⟩, bct⟩ := id b4
  obtain ⟨bz1, bz2, bz3, bz4⟩ := id bz
  obtain ⟨-, -, -, old, -, a111, -⟩ := id a11

  refine ex_meth [(0, .ref 0), (1, .int x), (2, .int y), (3, .int (nI b))] rfl rfl rfl (fun b => Nat.le_of_ble_eq_true rfl) ?_
  unfold f_mask
  by_cases hin : pi_in S.2.2.1.1.1 S.2.2.1.1.2.1 x y
  · rw [cif_y hin]
    obtain ⟨i, j, rfl, hi, rfl, hj⟩ := id hin
    rw [nI_clamp (show i < 2 ^ 31 by omega), nI_clamp (show j < 2 ^ 31 by omega)]
    refine ew_aload_n (M := mX9_mask) dX9_mask_0 rfl (Or.inr (Or.inl ⟨_, rfl⟩)) ?_
    refine ew_get (M := mX9_mask) dX9_mask_1 fX9_19 (by repeat (first | with_reducible assumption | refine ex_eq ?_ | refine ex_ne ?_ (by omega) | exact ex_lt (by with_reducible assumption) | rw [List.length_set] | assumption)) (by rfl) ?_
    refine ew_get (M := mX9_mask) dX9_mask_4 fX9_86 (by repeat (first | with_reducible assumption | refine ex_eq ?_ | refine ex_ne ?_ (by omega) | exact ex_lt (by with_reducible assumption) | rw [List.length_set] | assumption)) (by rfl) ?_
    refine ew_iload_n (M := mX9_mask) dX9_mask_7 rfl ?_
    refine ew_iload_n (M := mX9_mask) dX9_mask_8 rfl ?_
    refine ew_callV (M := mX9_mask) dX9_mask_9 vX9_137 (by repeat (first | with_reducible assumption | refine ex_eq ?_ | refine ex_ne ?_ (by omega) | exact ex_lt (by with_reducible assumption) | rw [List.length_set] | assumption)) rfl (sp_has_y b4 hi hj) rfl (Nat.le_of_ble_eq_true rfl) ⟨Nat.le_refl _, Nat.le_refl _⟩ rfl (fun H9 r9 q9 => ?_)
    obtain ⟨rfl, rfl⟩ := q9
    refine ew_if_ne (M := mX9_mask) (tgt := 18) dX9_mask_12 rfl (fun _ => ?_) (fun h => absurd h (by decide))
    refine ew_aload_n (M := mX9_mask) dX9_mask_18 rfl (Or.inr (Or.inl ⟨_, rfl⟩)) ?_
    refine ew_get (M := mX9_mask) dX9_mask_19 fX9_34 (by repeat (first | with_reducible assumption | refine ex_eq ?_ | refine ex_ne ?_ (by omega) | exact ex_lt (by with_reducible assumption) | rw [List.length_set] | assumption)) (by rfl) ?_
    refine ew_aload_n (M := mX9_mask) dX9_mask_22 rfl (Or.inr (Or.inl ⟨_, rfl⟩)) ?_
    refine ew_get (M := mX9_mask) dX9_mask_23 fX9_19 (by repeat (first | with_reducible assumption | refine ex_eq ?_ | refine ex_ne ?_ (by omega) | exact ex_lt (by with_reducible assumption) | rw [List.length_set] | assumption)) (by rfl) ?_
    refine ew_get (M := mX9_mask) dX9_mask_26 fX9_86 (by repeat (first | with_reducible assumption | refine ex_eq ?_ | refine ex_ne ?_ (by omega) | exact ex_lt (by with_reducible assumption) | rw [List.length_set] | assumption)) (by rfl) ?_
    refine ew_callV (M := mX9_mask) dX9_mask_29 vX9_89 (by repeat (first | with_reducible assumption | refine ex_eq ?_ | refine ex_ne ?_ (by omega) | exact ex_lt (by with_reducible assumption) | rw [List.length_set] | assumption)) rfl (sp_remember a11 b4 (by omega)) rfl (Nat.le_of_ble_eq_true rfl) ⟨Nat.le_refl _, Nat.le_refl _⟩ rfl (fun H29 r29 q29 => ?_)
    obtain ⟨rfl, hc1, hh1⟩ := q29
    have hS1 : cl_is H29 (s_rem S) := cl_hist hS hc1 hh1
    have hq1 : ex_ch H H29 cL := hc1.sub (fun k hk => Or.inl (by rw [cL_mem]; rw [hiL_mem] at hk; omega))
    obtain ⟨e1, ⟨epl, e2⟩, e3, ⟨efa, e4, e5, e6⟩, e7, e8, ⟨efk, e9, e10⟩, e11, e12, ⟨ecw, e13⟩, e14, e15⟩ := id hS1
    obtain ⟨g1, g2, g3, g4, g5⟩ := id e3
    have g4 : pis H29 4 S.2.2.1.1 := g4
    obtain ⟨-, ggs, gms, ⟨gp1, gp2, gp3⟩, -⟩ := id g4
    obtain ⟨g51, g52, g53⟩ := id g5
    have e1 : H29[0]? = some (ob 9 [.ref 1, .ref 3, .ref 9, .ref 22, .ref 23, .ref 73, .ref 77, .ref 80, .ref 83, .int S.2.1]) := e1
    have g1 : H29[3]? = some (ob 6 [.ref 4, .ref 7, .int (nI S.2.2.1.2.2.1), .int (nI S.2.2.1.2.2.2)]) := g1
    refine ew_aload_n (M := mX9_mask) dX9_mask_32 rfl (Or.inr (Or.inl ⟨_, rfl⟩)) ?_
    refine ew_get (M := mX9_mask) dX9_mask_33 fX9_19 (by repeat (first | with_reducible assumption | refine ex_eq ?_ | refine ex_ne ?_ (by omega) | exact ex_lt (by with_reducible assumption) | rw [List.length_set] | assumption)) (by rfl) ?_
    refine ew_get (M := mX9_mask) dX9_mask_36 fX9_86 (by repeat (first | with_reducible assumption | refine ex_eq ?_ | refine ex_ne ?_ (by omega) | exact ex_lt (by with_reducible assumption) | rw [List.length_set] | assumption)) (by rfl) ?_
    refine ew_iload_n (M := mX9_mask) dX9_mask_39 rfl ?_
    refine ew_iload_n (M := mX9_mask) dX9_mask_40 rfl ?_
    refine ew_iload_n (M := mX9_mask) dX9_mask_41 rfl ?_
    refine ew_callV (M := mX9_mask) dX9_mask_42 vX9_206 (by repeat (first | with_reducible assumption | refine ex_eq ?_ | refine ex_ne ?_ (by omega) | exact ex_lt (by with_reducible assumption) | rw [List.length_set] | assumption)) rfl (sp_setMasked g4 hi hj hb) rfl (Nat.le_of_ble_eq_true rfl) ⟨Nat.le_refl _, Nat.le_refl _⟩ rfl (fun H42 r42 q42 => ?_)
    obtain ⟨rfl, hc2, hp2⟩ := q42
    have k1 := hc2.at e1 (by simp)
    have k2 := hc2.at g1 (by simp)
    obtain ⟨-, kgs, kms, ⟨kp1, kp2, kp3⟩, -⟩ := id hp2
    refine ew_aload_n (M := mX9_mask) dX9_mask_45 rfl (Or.inr (Or.inl ⟨_, rfl⟩)) ?_
    refine ew_get (M := mX9_mask) dX9_mask_46 fX9_19 (by repeat (first | with_reducible assumption | refine ex_eq ?_ | refine ex_ne ?_ (by omega) | exact ex_lt (by with_reducible assumption) | rw [List.length_set] | assumption)) (by rfl) ?_
    refine ew_get (M := mX9_mask) dX9_mask_49 fX9_86 (by repeat (first | with_reducible assumption | refine ex_eq ?_ | refine ex_ne ?_ (by omega) | exact ex_lt (by with_reducible assumption) | rw [List.length_set] | assumption)) (by rfl) ?_
    refine ew_callV (M := mX9_mask) dX9_mask_52 vX9_105 (by repeat (first | with_reducible assumption | refine ex_eq ?_ | refine ex_ne ?_ (by omega) | exact ex_lt (by with_reducible assumption) | rw [List.length_set] | assumption)) rfl (sp_maskedDots hp2) rfl (Nat.le_of_ble_eq_true rfl) ⟨Nat.le_refl _, Nat.le_refl _⟩ rfl (fun H52 r52 q52 => ?_)
    obtain ⟨rfl, rfl⟩ := q52
    refine ew_iret (M := mX9_mask) dX9_mask_55 rfl (by first | rfl | decide) (Nat.le_refl _) (Nat.le_refl _) ?_
    exact ⟨rfl, hq1.tr hc2 (fun k hk => Or.inl (by rw [cL_mem]; simp at hk; omega)), cl_pic1 hS1 (hc2.sub (by simp)) hp2⟩
  · rw [cif_n hin]
    refine ew_aload_n (M := mX9_mask) dX9_mask_0 rfl (Or.inr (Or.inl ⟨_, rfl⟩)) ?_
    refine ew_get (M := mX9_mask) dX9_mask_1 fX9_19 (by repeat (first | with_reducible assumption | refine ex_eq ?_ | refine ex_ne ?_ (by omega) | exact ex_lt (by with_reducible assumption) | rw [List.length_set] | assumption)) (by rfl) ?_
    refine ew_get (M := mX9_mask) dX9_mask_4 fX9_86 (by repeat (first | with_reducible assumption | refine ex_eq ?_ | refine ex_ne ?_ (by omega) | exact ex_lt (by with_reducible assumption) | rw [List.length_set] | assumption)) (by rfl) ?_
    refine ew_iload_n (M := mX9_mask) dX9_mask_7 rfl ?_
    refine ew_iload_n (M := mX9_mask) dX9_mask_8 rfl ?_
    refine ew_callV (M := mX9_mask) dX9_mask_9 vX9_137 (by repeat (first | with_reducible assumption | refine ex_eq ?_ | refine ex_ne ?_ (by omega) | exact ex_lt (by with_reducible assumption) | rw [List.length_set] | assumption)) rfl (sp_has_n b4 hin) rfl (Nat.le_of_ble_eq_true rfl) ⟨Nat.le_refl _, Nat.le_refl _⟩ rfl (fun H9 r9 q9 => ?_)
    obtain ⟨rfl, rfl⟩ := q9
    refine ew_if_ne (M := mX9_mask) (tgt := 18) dX9_mask_12 rfl (fun h => absurd rfl h) (fun _ => ?_)
    refine ew_ldc (M := mX9_mask) dX9_mask_15 kX9_141 ?_
    refine ew_iret (M := mX9_mask) dX9_mask_17 rfl (by first | rfl | decide) (Nat.le_refl _) (Nat.le_refl _) ?_
    exact ⟨rfl, ex_ch.rf, hS⟩
def tuP (P : PT) (how : Nat) : PT := (if how = 2 then P.2.1 else P.1, if how = 2 then P.1 else P.2.1, tu_g how (if how = 2 then P.2.1 else P.1) (if how = 2 then P.1 else P.2.1) P.1 P.2.2.1, tu_m how (if how = 2 then P.2.1 else P.1) (if how = 2 then P.1 else P.2.1) P.1 P.2.2.2)
noncomputable def f_turn (S : SS) (t : Int32) : Int32 × SS := cif (nI 0 ≤ t ∧ t ≤ nI 3) (cif (t = nI 2 ∧ 8 < S.2.2.1.1.1) (-1000000003, S) (nI (tuP S.2.2.1.1 t.toNatClampNeg).1, deed S (tuP S.2.2.1.1 t.toNatClampNeg))) (-1000000002, S)
theorem cs_turn {d : Nat} {H : ex_H} {S : SS} (hS : cl_is H S) (t : Int32) : ex_Met mX9_turn (d + 4) 0 0 H [.ref 0, .int t] (fun H' r => r = some (.int (f_turn S t).1) ∧ ex_ch H H' cL ∧ cl_is H' (f_turn S t).2) := by
  obtain ⟨a1, ⟨pl, a2⟩, a3, ⟨fa, a4, a5, a6⟩, a7, a8, ⟨fk, a9, a10⟩, a11, a12, ⟨cw, a13⟩, a14, a15⟩ := id hS
  obtain ⟨b1, b2, b3, b4, b5⟩ := id a3
  obtain ⟨⟨bz, bgm⟩, bgs, bms, ⟨bp1, bp2, bp3⟩, bct⟩ := id b4
  obtain ⟨bz1, bz2, bz3, bz4⟩ := id bz
  obtain ⟨-, -, -, old, -, a111, -⟩ := id a11

  refine ex_meth [(0, .ref 0), (1, .int t)] rfl rfl rfl (fun b => Nat.le_of_ble_eq_true rfl) ?_
  unfold f_turn
  by_cases hx : nI 0 ≤ t ∧ t ≤ nI 3
  · rw [cif_y hx]
    obtain ⟨v, hv, rfl⟩ := nI_of3 (by decide) hx
    rw [nI_clamp (show v < 2 ^ 31 by omega)]
    by_cases h2 : nI v = nI 2 ∧ 8 < S.2.2.1.1.1
    · rw [cif_y h2]
      refine ew_iload_n (M := mX9_turn) dX9_turn_0 rfl ?_
      refine ew_iconst (M := mX9_turn) dX9_turn_1 (v := nI 0) (by decide) ?_
      refine ew_iconst (M := mX9_turn) dX9_turn_2 (v := nI 3) (by decide) ?_
      refine ew_callS (M := mX9_turn) dX9_turn_3 vX9_66 (sp_within_y hx.1 hx.2) rfl (Nat.le_of_ble_eq_true rfl) ⟨Nat.le_refl _, Nat.le_refl _⟩ rfl (fun H3 r3 q3 => ?_)
      obtain ⟨rfl, rfl⟩ := q3
      refine ew_if_ne (M := mX9_turn) (tgt := 12) dX9_turn_6 rfl (fun _ => ?_) (fun h => absurd h (by decide))
      refine ew_iload_n (M := mX9_turn) dX9_turn_12 rfl ?_
      refine ew_iconst (M := mX9_turn) dX9_turn_13 (v := nI 2) (by decide) ?_
      refine ew_icmp_ne (M := mX9_turn) (tgt := 50) dX9_turn_14 rfl (fun h => absurd h2.1 h) (fun _ => ?_)
      refine ew_aload_n (M := mX9_turn) dX9_turn_17 rfl (Or.inr (Or.inl ⟨_, rfl⟩)) ?_
      refine ew_get (M := mX9_turn) dX9_turn_18 fX9_19 (by repeat (first | with_reducible assumption | refine ex_eq ?_ | refine ex_ne ?_ (by omega) | exact ex_lt (by with_reducible assumption) | rw [List.length_set] | assumption)) (by rfl) ?_
      refine ew_get (M := mX9_turn) dX9_turn_21 fX9_86 (by repeat (first | with_reducible assumption | refine ex_eq ?_ | refine ex_ne ?_ (by omega) | exact ex_lt (by with_reducible assumption) | rw [List.length_set] | assumption)) (by rfl) ?_
      refine ew_get (M := mX9_turn) dX9_turn_24 fX9_102 (by repeat (first | with_reducible assumption | refine ex_eq ?_ | refine ex_ne ?_ (by omega) | exact ex_lt (by with_reducible assumption) | rw [List.length_set] | assumption)) (by rfl) ?_
      refine ew_bipush (M := mX9_turn) dX9_turn_27 (v := nI 10) (by decide) ?_
      refine ew_icmp_gt (M := mX9_turn) (tgt := 47) dX9_turn_29 rfl (fun h => absurd h (nI_nlt (by omega) (by omega))) (fun _ => ?_)
      refine ew_aload_n (M := mX9_turn) dX9_turn_32 rfl (Or.inr (Or.inl ⟨_, rfl⟩)) ?_
      refine ew_get (M := mX9_turn) dX9_turn_33 fX9_19 (by repeat (first | with_reducible assumption | refine ex_eq ?_ | refine ex_ne ?_ (by omega) | exact ex_lt (by with_reducible assumption) | rw [List.length_set] | assumption)) (by rfl) ?_
      refine ew_get (M := mX9_turn) dX9_turn_36 fX9_86 (by repeat (first | with_reducible assumption | refine ex_eq ?_ | refine ex_ne ?_ (by omega) | exact ex_lt (by with_reducible assumption) | rw [List.length_set] | assumption)) (by rfl) ?_
      refine ew_get (M := mX9_turn) dX9_turn_39 fX9_99 (by repeat (first | with_reducible assumption | refine ex_eq ?_ | refine ex_ne ?_ (by omega) | exact ex_lt (by with_reducible assumption) | rw [List.length_set] | assumption)) (by rfl) ?_
      refine ew_bipush (M := mX9_turn) dX9_turn_42 (v := nI 8) (by decide) ?_
      refine ew_icmp_le (M := mX9_turn) (tgt := 50) dX9_turn_44 rfl (fun h => absurd h (nI_ge (by omega) (by omega))) (fun _ => ?_)
      refine ew_ldc (M := mX9_turn) dX9_turn_47 kX9_210 ?_
      refine ew_iret (M := mX9_turn) dX9_turn_49 rfl (by first | rfl | decide) (Nat.le_refl _) (Nat.le_refl _) ?_
      exact ⟨rfl, ex_ch.rf, hS⟩
    · rw [cif_n h2]
      have hz : pi_sz (if v = 2 then S.2.2.1.1.2.1 else S.2.2.1.1.1) (if v = 2 then S.2.2.1.1.1 else S.2.2.1.1.2.1) := by
        by_cases e : v = 2
        · rw [if_pos e, if_pos e]
          have : ¬ 8 < S.2.2.1.1.1 := fun q => h2 ⟨by rw [e], q⟩
          exact ⟨by omega, by omega, by omega, by omega⟩
        · rw [if_neg e, if_neg e]; exact bz
      by_cases e : v = 2
      · have h8 : ¬ 8 < S.2.2.1.1.1 := fun q => h2 ⟨by rw [e], q⟩
        refine ew_iload_n (M := mX9_turn) dX9_turn_0 rfl ?_
        refine ew_iconst (M := mX9_turn) dX9_turn_1 (v := nI 0) (by decide) ?_
        refine ew_iconst (M := mX9_turn) dX9_turn_2 (v := nI 3) (by decide) ?_
        refine ew_callS (M := mX9_turn) dX9_turn_3 vX9_66 (sp_within_y hx.1 hx.2) rfl (Nat.le_of_ble_eq_true rfl) ⟨Nat.le_refl _, Nat.le_refl _⟩ rfl (fun H3 r3 q3 => ?_)
        obtain ⟨rfl, rfl⟩ := q3
        refine ew_if_ne (M := mX9_turn) (tgt := 12) dX9_turn_6 rfl (fun _ => ?_) (fun h => absurd h (by decide))
        refine ew_iload_n (M := mX9_turn) dX9_turn_12 rfl ?_
        refine ew_iconst (M := mX9_turn) dX9_turn_13 (v := nI 2) (by decide) ?_
        refine ew_icmp_ne (M := mX9_turn) (tgt := 50) dX9_turn_14 rfl (fun h => absurd (by rw [e]) h) (fun _ => ?_)
        refine ew_aload_n (M := mX9_turn) dX9_turn_17 rfl (Or.inr (Or.inl ⟨_, rfl⟩)) ?_
        refine ew_get (M := mX9_turn) dX9_turn_18 fX9_19 (by repeat (first | with_reducible assumption | refine ex_eq ?_ | refine ex_ne ?_ (by omega) | exact ex_lt (by with_reducible assumption) | rw [List.length_set] | assumption)) (by rfl) ?_
        refine ew_get (M := mX9_turn) dX9_turn_21 fX9_86 (by repeat (first | with_reducible assumption | refine ex_eq ?_ | refine ex_ne ?_ (by omega) | exact ex_lt (by with_reducible assumption) | rw [List.length_set] | assumption)) (by rfl) ?_
        refine ew_get (M := mX9_turn) dX9_turn_24 fX9_102 (by repeat (first | with_reducible assumption | refine ex_eq ?_ | refine ex_ne ?_ (by omega) | exact ex_lt (by with_reducible assumption) | rw [List.length_set] | assumption)) (by rfl) ?_
        refine ew_bipush (M := mX9_turn) dX9_turn_27 (v := nI 10) (by decide) ?_
        refine ew_icmp_gt (M := mX9_turn) (tgt := 47) dX9_turn_29 rfl (fun h => absurd h (nI_nlt (by omega) (by omega))) (fun _ => ?_)
        refine ew_aload_n (M := mX9_turn) dX9_turn_32 rfl (Or.inr (Or.inl ⟨_, rfl⟩)) ?_
        refine ew_get (M := mX9_turn) dX9_turn_33 fX9_19 (by repeat (first | with_reducible assumption | refine ex_eq ?_ | refine ex_ne ?_ (by omega) | exact ex_lt (by with_reducible assumption) | rw [List.length_set] | assumption)) (by rfl) ?_
        refine ew_get (M := mX9_turn) dX9_turn_36 fX9_86 (by repeat (first | with_reducible assumption | refine ex_eq ?_ | refine ex_ne ?_ (by omega) | exact ex_lt (by with_reducible assumption) | rw [List.length_set] | assumption)) (by rfl) ?_
        refine ew_get (M := mX9_turn) dX9_turn_39 fX9_99 (by repeat (first | with_reducible assumption | refine ex_eq ?_ | refine ex_ne ?_ (by omega) | exact ex_lt (by with_reducible assumption) | rw [List.length_set] | assumption)) (by rfl) ?_
        refine ew_bipush (M := mX9_turn) dX9_turn_42 (v := nI 8) (by decide) ?_
        refine ew_icmp_le (M := mX9_turn) (tgt := 50) dX9_turn_44 rfl (fun _ => ?_) (fun h => absurd (nI_le (by omega) (by omega)) h)
        refine ew_aload_n (M := mX9_turn) dX9_turn_50 rfl (Or.inr (Or.inl ⟨_, rfl⟩)) ?_
        refine ew_get (M := mX9_turn) dX9_turn_51 fX9_34 (by repeat (first | with_reducible assumption | refine ex_eq ?_ | refine ex_ne ?_ (by omega) | exact ex_lt (by with_reducible assumption) | rw [List.length_set] | assumption)) (by rfl) ?_
        refine ew_aload_n (M := mX9_turn) dX9_turn_54 rfl (Or.inr (Or.inl ⟨_, rfl⟩)) ?_
        refine ew_get (M := mX9_turn) dX9_turn_55 fX9_19 (by repeat (first | with_reducible assumption | refine ex_eq ?_ | refine ex_ne ?_ (by omega) | exact ex_lt (by with_reducible assumption) | rw [List.length_set] | assumption)) (by rfl) ?_
        refine ew_get (M := mX9_turn) dX9_turn_58 fX9_86 (by repeat (first | with_reducible assumption | refine ex_eq ?_ | refine ex_ne ?_ (by omega) | exact ex_lt (by with_reducible assumption) | rw [List.length_set] | assumption)) (by rfl) ?_
        refine ew_callV (M := mX9_turn) dX9_turn_61 vX9_89 (by repeat (first | with_reducible assumption | refine ex_eq ?_ | refine ex_ne ?_ (by omega) | exact ex_lt (by with_reducible assumption) | rw [List.length_set] | assumption)) rfl (sp_remember a11 b4 (by omega)) rfl (Nat.le_of_ble_eq_true rfl) ⟨Nat.le_refl _, Nat.le_refl _⟩ rfl (fun H61 r61 q61 => ?_)
        obtain ⟨rfl, hc1, hh1⟩ := q61
        have hS1 : cl_is H61 (s_rem S) := cl_hist hS hc1 hh1
        have hq1 : ex_ch H H61 cL := hc1.sub (fun k hk => Or.inl (by rw [cL_mem]; rw [hiL_mem] at hk; omega))
        obtain ⟨e1, ⟨epl, e2⟩, e3, ⟨efa, e4, e5, e6⟩, e7, e8, ⟨efk, e9, e10⟩, e11, e12, ⟨ecw, e13⟩, e14, e15⟩ := id hS1
        obtain ⟨g1, g2, g3, g4, g5⟩ := id e3
        have g4 : pis H61 4 S.2.2.1.1 := g4
        obtain ⟨-, ggs, gms, ⟨gp1, gp2, gp3⟩, -⟩ := id g4
        obtain ⟨g51, g52, g53⟩ := id g5
        have e1 : H61[0]? = some (ob 9 [.ref 1, .ref 3, .ref 9, .ref 22, .ref 23, .ref 73, .ref 77, .ref 80, .ref 83, .int S.2.1]) := e1
        have g1 : H61[3]? = some (ob 6 [.ref 4, .ref 7, .int (nI S.2.2.1.2.2.1), .int (nI S.2.2.1.2.2.2)]) := g1
        obtain ⟨sw0, sh0, sgs, sms, esp⟩ := id e14
        obtain ⟨esp1, esp2, esp3⟩ := id esp
        refine ew_aload_n (M := mX9_turn) dX9_turn_64 rfl (Or.inr (Or.inl ⟨_, rfl⟩)) ?_
        refine ew_get (M := mX9_turn) dX9_turn_65 fX9_55 (by repeat (first | with_reducible assumption | refine ex_eq ?_ | refine ex_ne ?_ (by omega) | exact ex_lt (by with_reducible assumption) | rw [List.length_set] | assumption)) (by rfl) ?_
        refine ew_aload_n (M := mX9_turn) dX9_turn_68 rfl (Or.inr (Or.inl ⟨_, rfl⟩)) ?_
        refine ew_get (M := mX9_turn) dX9_turn_69 fX9_19 (by repeat (first | with_reducible assumption | refine ex_eq ?_ | refine ex_ne ?_ (by omega) | exact ex_lt (by with_reducible assumption) | rw [List.length_set] | assumption)) (by rfl) ?_
        refine ew_get (M := mX9_turn) dX9_turn_72 fX9_86 (by repeat (first | with_reducible assumption | refine ex_eq ?_ | refine ex_ne ?_ (by omega) | exact ex_lt (by with_reducible assumption) | rw [List.length_set] | assumption)) (by rfl) ?_
        refine ew_iload_n (M := mX9_turn) dX9_turn_75 rfl ?_
        refine ew_callV (M := mX9_turn) dX9_turn_76 vX9_211 (by repeat (first | with_reducible assumption | refine ex_eq ?_ | refine ex_ne ?_ (by omega) | exact ex_lt (by with_reducible assumption) | rw [List.length_set] | assumption)) rfl (sp_becomeTurned (w := if v = 2 then S.2.2.1.1.2.1 else S.2.2.1.1.1) (h := if v = 2 then S.2.2.1.1.1 else S.2.2.1.1.2.1) esp g4 (by omega) hz (show v < 4 by omega) rfl rfl) rfl (Nat.le_of_ble_eq_true rfl) ⟨Nat.le_refl _, Nat.le_refl _⟩ rfl (fun H76 r76 q76 => ?_)
        obtain ⟨rfl, hc2, hp2⟩ := q76
        have k1 := hc2.at e1 (by simp)
        have k2 := hc2.at g1 (by simp)
        have k4 : pis H76 4 S.2.2.1.1 := g4.ch hc2 (by simp) (by simp) (by simp)
        obtain ⟨-, kgs, kms, ⟨kp1, kp2, kp3⟩, -⟩ := id k4
        refine ew_aload_n (M := mX9_turn) dX9_turn_79 rfl (Or.inr (Or.inl ⟨_, rfl⟩)) ?_
        refine ew_get (M := mX9_turn) dX9_turn_80 fX9_19 (by repeat (first | with_reducible assumption | refine ex_eq ?_ | refine ex_ne ?_ (by omega) | exact ex_lt (by with_reducible assumption) | rw [List.length_set] | assumption)) (by rfl) ?_
        refine ew_get (M := mX9_turn) dX9_turn_83 fX9_86 (by repeat (first | with_reducible assumption | refine ex_eq ?_ | refine ex_ne ?_ (by omega) | exact ex_lt (by with_reducible assumption) | rw [List.length_set] | assumption)) (by rfl) ?_
        refine ew_aload_n (M := mX9_turn) dX9_turn_86 rfl (Or.inr (Or.inl ⟨_, rfl⟩)) ?_
        refine ew_get (M := mX9_turn) dX9_turn_87 fX9_55 (by repeat (first | with_reducible assumption | refine ex_eq ?_ | refine ex_ne ?_ (by omega) | exact ex_lt (by with_reducible assumption) | rw [List.length_set] | assumption)) (by rfl) ?_
        refine ew_callV (M := mX9_turn) dX9_turn_90 vX9_93 (by repeat (first | with_reducible assumption | refine ex_eq ?_ | refine ex_ne ?_ (by omega) | exact ex_lt (by with_reducible assumption) | rw [List.length_set] | assumption)) rfl (sp_become ⟨kp1, kp2, kp3⟩ hp2 (by omega)) rfl (Nat.le_of_ble_eq_true rfl) ⟨Nat.le_refl _, Nat.le_refl _⟩ rfl (fun H90 r90 q90 => ?_)
        obtain ⟨rfl, hc3, hp3⟩ := q90
        have j1 := hc3.at k1 (by simp)
        have j2 := hc3.at k2 (by simp)
        obtain ⟨-, jgs, jms, ⟨jp1, jp2, jp3⟩, -⟩ := id hp3
        refine ew_aload_n (M := mX9_turn) dX9_turn_93 rfl (Or.inr (Or.inl ⟨_, rfl⟩)) ?_
        refine ew_get (M := mX9_turn) dX9_turn_94 fX9_19 (by repeat (first | with_reducible assumption | refine ex_eq ?_ | refine ex_ne ?_ (by omega) | exact ex_lt (by with_reducible assumption) | rw [List.length_set] | assumption)) (by rfl) ?_
        refine ew_get (M := mX9_turn) dX9_turn_97 fX9_86 (by repeat (first | with_reducible assumption | refine ex_eq ?_ | refine ex_ne ?_ (by omega) | exact ex_lt (by with_reducible assumption) | rw [List.length_set] | assumption)) (by rfl) ?_
        refine ew_get (M := mX9_turn) dX9_turn_100 fX9_99 (by repeat (first | with_reducible assumption | refine ex_eq ?_ | refine ex_ne ?_ (by omega) | exact ex_lt (by with_reducible assumption) | rw [List.length_set] | assumption)) (by rfl) ?_
        refine ew_iret (M := mX9_turn) dX9_turn_103 rfl (by first | rfl | decide) (Nat.le_refl _) (Nat.le_refl _) ?_
        refine ⟨rfl, (hq1.tr hc2 (fun k hk => Or.inl (by rw [cL_mem]; simp at hk; omega))).tr hc3 (fun k hk => Or.inl (by rw [cL_mem]; simp at hk; omega)), ?_⟩
        have hcc : ex_ch H61 H90 [4, 5, 6, 77, 78, 79, 80, 81, 82, 83, 84, 85] := (hc2.sub (by simp)).tr hc3 (by simp)
        exact cl_pic hS1 hcc hp3 ⟨ecw, (e13.ch hc2 (by simp) (by simp) (by simp)).ch hc3 (by simp) (by simp) (by simp)⟩ ((pis.any (P := (_, _, _, _)) hp2).ch hc3 (by simp) (by simp) (by simp)) ((e15.ch hc2 (by simp) (by simp) (by simp)).ch hc3 (by simp) (by simp) (by simp))
      · refine ew_iload_n (M := mX9_turn) dX9_turn_0 rfl ?_
        refine ew_iconst (M := mX9_turn) dX9_turn_1 (v := nI 0) (by decide) ?_
        refine ew_iconst (M := mX9_turn) dX9_turn_2 (v := nI 3) (by decide) ?_
        refine ew_callS (M := mX9_turn) dX9_turn_3 vX9_66 (sp_within_y hx.1 hx.2) rfl (Nat.le_of_ble_eq_true rfl) ⟨Nat.le_refl _, Nat.le_refl _⟩ rfl (fun H3 r3 q3 => ?_)
        obtain ⟨rfl, rfl⟩ := q3
        refine ew_if_ne (M := mX9_turn) (tgt := 12) dX9_turn_6 rfl (fun _ => ?_) (fun h => absurd h (by decide))
        refine ew_iload_n (M := mX9_turn) dX9_turn_12 rfl ?_
        refine ew_iconst (M := mX9_turn) dX9_turn_13 (v := nI 2) (by decide) ?_
        refine ew_icmp_ne (M := mX9_turn) (tgt := 50) dX9_turn_14 rfl (fun _ => ?_) (fun h => absurd h (fun q => e ((nI_eq (by omega) (by decide)).mp q)))
        refine ew_aload_n (M := mX9_turn) dX9_turn_50 rfl (Or.inr (Or.inl ⟨_, rfl⟩)) ?_
        refine ew_get (M := mX9_turn) dX9_turn_51 fX9_34 (by repeat (first | with_reducible assumption | refine ex_eq ?_ | refine ex_ne ?_ (by omega) | exact ex_lt (by with_reducible assumption) | rw [List.length_set] | assumption)) (by rfl) ?_
        refine ew_aload_n (M := mX9_turn) dX9_turn_54 rfl (Or.inr (Or.inl ⟨_, rfl⟩)) ?_
        refine ew_get (M := mX9_turn) dX9_turn_55 fX9_19 (by repeat (first | with_reducible assumption | refine ex_eq ?_ | refine ex_ne ?_ (by omega) | exact ex_lt (by with_reducible assumption) | rw [List.length_set] | assumption)) (by rfl) ?_
        refine ew_get (M := mX9_turn) dX9_turn_58 fX9_86 (by repeat (first | with_reducible assumption | refine ex_eq ?_ | refine ex_ne ?_ (by omega) | exact ex_lt (by with_reducible assumption) | rw [List.length_set] | assumption)) (by rfl) ?_
        refine ew_callV (M := mX9_turn) dX9_turn_61 vX9_89 (by repeat (first | with_reducible assumption | refine ex_eq ?_ | refine ex_ne ?_ (by omega) | exact ex_lt (by with_reducible assumption) | rw [List.length_set] | assumption)) rfl (sp_remember a11 b4 (by omega)) rfl (Nat.le_of_ble_eq_true rfl) ⟨Nat.le_refl _, Nat.le_refl _⟩ rfl (fun H61 r61 q61 => ?_)
        obtain ⟨rfl, hc1, hh1⟩ := q61
        have hS1 : cl_is H61 (s_rem S) := cl_hist hS hc1 hh1
        have hq1 : ex_ch H H61 cL := hc1.sub (fun k hk => Or.inl (by rw [cL_mem]; rw [hiL_mem] at hk; omega))
        obtain ⟨e1, ⟨epl, e2⟩, e3, ⟨efa, e4, e5, e6⟩, e7, e8, ⟨efk, e9, e10⟩, e11, e12, ⟨ecw, e13⟩, e14, e15⟩ := id hS1
        obtain ⟨g1, g2, g3, g4, g5⟩ := id e3
        have g4 : pis H61 4 S.2.2.1.1 := g4
        obtain ⟨-, ggs, gms, ⟨gp1, gp2, gp3⟩, -⟩ := id g4
        obtain ⟨g51, g52, g53⟩ := id g5
        have e1 : H61[0]? = some (ob 9 [.ref 1, .ref 3, .ref 9, .ref 22, .ref 23, .ref 73, .ref 77, .ref 80, .ref 83, .int S.2.1]) := e1
        have g1 : H61[3]? = some (ob 6 [.ref 4, .ref 7, .int (nI S.2.2.1.2.2.1), .int (nI S.2.2.1.2.2.2)]) := g1
        obtain ⟨sw0, sh0, sgs, sms, esp⟩ := id e14
        obtain ⟨esp1, esp2, esp3⟩ := id esp
        refine ew_aload_n (M := mX9_turn) dX9_turn_64 rfl (Or.inr (Or.inl ⟨_, rfl⟩)) ?_
        refine ew_get (M := mX9_turn) dX9_turn_65 fX9_55 (by repeat (first | with_reducible assumption | refine ex_eq ?_ | refine ex_ne ?_ (by omega) | exact ex_lt (by with_reducible assumption) | rw [List.length_set] | assumption)) (by rfl) ?_
        refine ew_aload_n (M := mX9_turn) dX9_turn_68 rfl (Or.inr (Or.inl ⟨_, rfl⟩)) ?_
        refine ew_get (M := mX9_turn) dX9_turn_69 fX9_19 (by repeat (first | with_reducible assumption | refine ex_eq ?_ | refine ex_ne ?_ (by omega) | exact ex_lt (by with_reducible assumption) | rw [List.length_set] | assumption)) (by rfl) ?_
        refine ew_get (M := mX9_turn) dX9_turn_72 fX9_86 (by repeat (first | with_reducible assumption | refine ex_eq ?_ | refine ex_ne ?_ (by omega) | exact ex_lt (by with_reducible assumption) | rw [List.length_set] | assumption)) (by rfl) ?_
        refine ew_iload_n (M := mX9_turn) dX9_turn_75 rfl ?_
        refine ew_callV (M := mX9_turn) dX9_turn_76 vX9_211 (by repeat (first | with_reducible assumption | refine ex_eq ?_ | refine ex_ne ?_ (by omega) | exact ex_lt (by with_reducible assumption) | rw [List.length_set] | assumption)) rfl (sp_becomeTurned (w := if v = 2 then S.2.2.1.1.2.1 else S.2.2.1.1.1) (h := if v = 2 then S.2.2.1.1.1 else S.2.2.1.1.2.1) esp g4 (by omega) hz (show v < 4 by omega) rfl rfl) rfl (Nat.le_of_ble_eq_true rfl) ⟨Nat.le_refl _, Nat.le_refl _⟩ rfl (fun H76 r76 q76 => ?_)
        obtain ⟨rfl, hc2, hp2⟩ := q76
        have k1 := hc2.at e1 (by simp)
        have k2 := hc2.at g1 (by simp)
        have k4 : pis H76 4 S.2.2.1.1 := g4.ch hc2 (by simp) (by simp) (by simp)
        obtain ⟨-, kgs, kms, ⟨kp1, kp2, kp3⟩, -⟩ := id k4
        refine ew_aload_n (M := mX9_turn) dX9_turn_79 rfl (Or.inr (Or.inl ⟨_, rfl⟩)) ?_
        refine ew_get (M := mX9_turn) dX9_turn_80 fX9_19 (by repeat (first | with_reducible assumption | refine ex_eq ?_ | refine ex_ne ?_ (by omega) | exact ex_lt (by with_reducible assumption) | rw [List.length_set] | assumption)) (by rfl) ?_
        refine ew_get (M := mX9_turn) dX9_turn_83 fX9_86 (by repeat (first | with_reducible assumption | refine ex_eq ?_ | refine ex_ne ?_ (by omega) | exact ex_lt (by with_reducible assumption) | rw [List.length_set] | assumption)) (by rfl) ?_
        refine ew_aload_n (M := mX9_turn) dX9_turn_86 rfl (Or.inr (Or.inl ⟨_, rfl⟩)) ?_
        refine ew_get (M := mX9_turn) dX9_turn_87 fX9_55 (by repeat (first | with_reducible assumption | refine ex_eq ?_ | refine ex_ne ?_ (by omega) | exact ex_lt (by with_reducible assumption) | rw [List.length_set] | assumption)) (by rfl) ?_
        refine ew_callV (M := mX9_turn) dX9_turn_90 vX9_93 (by repeat (first | with_reducible assumption | refine ex_eq ?_ | refine ex_ne ?_ (by omega) | exact ex_lt (by with_reducible assumption) | rw [List.length_set] | assumption)) rfl (sp_become ⟨kp1, kp2, kp3⟩ hp2 (by omega)) rfl (Nat.le_of_ble_eq_true rfl) ⟨Nat.le_refl _, Nat.le_refl _⟩ rfl (fun H90 r90 q90 => ?_)
        obtain ⟨rfl, hc3, hp3⟩ := q90
        have j1 := hc3.at k1 (by simp)
        have j2 := hc3.at k2 (by simp)
        obtain ⟨-, jgs, jms, ⟨jp1, jp2, jp3⟩, -⟩ := id hp3
        refine ew_aload_n (M := mX9_turn) dX9_turn_93 rfl (Or.inr (Or.inl ⟨_, rfl⟩)) ?_
        refine ew_get (M := mX9_turn) dX9_turn_94 fX9_19 (by repeat (first | with_reducible assumption | refine ex_eq ?_ | refine ex_ne ?_ (by omega) | exact ex_lt (by with_reducible assumption) | rw [List.length_set] | assumption)) (by rfl) ?_
        refine ew_get (M := mX9_turn) dX9_turn_97 fX9_86 (by repeat (first | with_reducible assumption | refine ex_eq ?_ | refine ex_ne ?_ (by omega) | exact ex_lt (by with_reducible assumption) | rw [List.length_set] | assumption)) (by rfl) ?_
        refine ew_get (M := mX9_turn) dX9_turn_100 fX9_99 (by repeat (first | with_reducible assumption | refine ex_eq ?_ | refine ex_ne ?_ (by omega) | exact ex_lt (by with_reducible assumption) | rw [List.length_set] | assumption)) (by rfl) ?_
        refine ew_iret (M := mX9_turn) dX9_turn_103 rfl (by first | rfl | decide) (Nat.le_refl _) (Nat.le_refl _) ?_
        refine ⟨rfl, (hq1.tr hc2 (fun k hk => Or.inl (by rw [cL_mem]; simp at hk; omega))).tr hc3 (fun k hk => Or.inl (by rw [cL_mem]; simp at hk; omega)), ?_⟩
        have hcc : ex_ch H61 H90 [4, 5, 6, 77, 78, 79, 80, 81, 82, 83, 84, 85] := (hc2.sub (by simp)).tr hc3 (by simp)
        exact cl_pic hS1 hcc hp3 ⟨ecw, (e13.ch hc2 (by simp) (by simp) (by simp)).ch hc3 (by simp) (by simp) (by simp)⟩ ((pis.any (P := (_, _, _, _)) hp2).ch hc3 (by simp) (by simp) (by simp)) ((e15.ch hc2 (by simp) (by simp) (by simp)).ch hc3 (by simp) (by simp) (by simp))
  · rw [cif_n hx]
    refine ew_iload_n (M := mX9_turn) dX9_turn_0 rfl ?_
    refine ew_iconst (M := mX9_turn) dX9_turn_1 (v := nI 0) (by decide) ?_
    refine ew_iconst (M := mX9_turn) dX9_turn_2 (v := nI 3) (by decide) ?_
    refine ew_callS (M := mX9_turn) dX9_turn_3 vX9_66 (sp_within_n hx) rfl (Nat.le_of_ble_eq_true rfl) ⟨Nat.le_refl _, Nat.le_refl _⟩ rfl (fun H3 r3 q3 => ?_)
    obtain ⟨rfl, rfl⟩ := q3
    refine ew_if_ne (M := mX9_turn) (tgt := 12) dX9_turn_6 rfl (fun h => absurd rfl h) (fun _ => ?_)
    refine ew_ldc (M := mX9_turn) dX9_turn_9 kX9_70 ?_
    refine ew_iret (M := mX9_turn) dX9_turn_11 rfl (by first | rfl | decide) (Nat.le_refl _) (Nat.le_refl _) ?_
    exact ⟨rfl, ex_ch.rf, hS⟩
noncomputable def f_filtered (S : SS) (f : Int32) : Int32 × SS := cif (fin S.2.2.1.2.1.1 f) (nI (pm_gother S.2.2.1.1.1 S.2.2.1.1.2.1 S.2.2.1.1.2.2.1 (apG S.2.2.1.1 (S.2.2.1.2.1.2 f.toNatClampNeg) S.2.2.1.2.2.1)), deed S (apP S.2.2.1.1 (S.2.2.1.2.1.2 f.toNatClampNeg) S.2.2.1.2.2.1)) (-1000000001, S)
theorem cs_filtered {d : Nat} {H : ex_H} {S : SS} (hS : cl_is H S) (f : Int32) : ex_Met mX9_filtered (d + 6) 0 0 H [.ref 0, .int f] (fun H' r => r = some (.int (f_filtered S f).1) ∧ ex_ch H H' cL ∧ cl_is H' (f_filtered S f).2) := by
  obtain ⟨a1, ⟨pl, a2⟩, a3, ⟨fa, a4, a5, a6⟩, a7, a8, ⟨fk, a9, a10⟩, a11, a12, ⟨cw, a13⟩, a14, a15⟩ := id hS
  obtain ⟨b1, b2, b3, b4, b5⟩ := id a3
  obtain ⟨⟨bz, bgm⟩, bgs, bms, ⟨bp1, bp2, bp3⟩, bct⟩ := id b4
  obtain ⟨bz1, bz2, bz3, bz4⟩ := id bz
  obtain ⟨-, -, -, old, -, a111, -⟩ := id a11
  obtain ⟨b51, b52, b53⟩ := id b5
  refine ex_meth [(0, .ref 0), (1, .int f)] rfl rfl rfl (fun b => Nat.le_of_ble_eq_true rfl) ?_
  unfold f_filtered
  by_cases hx : fin S.2.2.1.2.1.1 f
  · rw [cif_y hx]
    obtain ⟨k, hk, rfl⟩ := id hx
    rw [nI_clamp (show k < 2 ^ 31 by omega)]
    refine ew_aload_n (M := mX9_filtered) dX9_filtered_0 rfl (Or.inr (Or.inl ⟨_, rfl⟩)) ?_
    refine ew_get (M := mX9_filtered) dX9_filtered_1 fX9_19 (by repeat (first | with_reducible assumption | refine ex_eq ?_ | refine ex_ne ?_ (by omega) | exact ex_lt (by with_reducible assumption) | rw [List.length_set] | assumption)) (by rfl) ?_
    refine ew_get (M := mX9_filtered) dX9_filtered_4 fX9_120 (by repeat (first | with_reducible assumption | refine ex_eq ?_ | refine ex_ne ?_ (by omega) | exact ex_lt (by with_reducible assumption) | rw [List.length_set] | assumption)) (by rfl) ?_
    refine ew_iload_n (M := mX9_filtered) dX9_filtered_7 rfl ?_
    refine ew_callV (M := mX9_filtered) dX9_filtered_8 vX9_167 (by repeat (first | with_reducible assumption | refine ex_eq ?_ | refine ex_ne ?_ (by omega) | exact ex_lt (by with_reducible assumption) | rw [List.length_set] | assumption)) rfl (sp_numbered b5 hk) rfl (Nat.le_of_ble_eq_true rfl) ⟨Nat.le_refl _, Nat.le_refl _⟩ rfl (fun H8 r8 q8 => ?_)
    obtain ⟨a, rfl, rfl, ha98, hav⟩ := q8
    obtain ⟨v1, v2, v3, v4, v5, v6, v7⟩ := id hav
    refine ew_astore_n (M := mX9_filtered) dX9_filtered_11 (Or.inr ⟨_, rfl⟩) (by decide) rfl ?_
    refine ew_aload_n (M := mX9_filtered) dX9_filtered_12 rfl (Or.inr (Or.inl ⟨_, rfl⟩)) ?_
    refine ew_ifnonnull (v := some a) (M := mX9_filtered) (tgt := 19) dX9_filtered_13 rfl (fun _ _ => ?_) (fun h => by cases h)
    refine ew_aload_n (M := mX9_filtered) dX9_filtered_19 rfl (Or.inr (Or.inl ⟨_, rfl⟩)) ?_
    refine ew_get (M := mX9_filtered) dX9_filtered_20 fX9_34 (by repeat (first | with_reducible assumption | refine ex_eq ?_ | refine ex_ne ?_ (by omega) | exact ex_lt (by with_reducible assumption) | rw [List.length_set] | assumption)) (by rfl) ?_
    refine ew_aload_n (M := mX9_filtered) dX9_filtered_23 rfl (Or.inr (Or.inl ⟨_, rfl⟩)) ?_
    refine ew_get (M := mX9_filtered) dX9_filtered_24 fX9_19 (by repeat (first | with_reducible assumption | refine ex_eq ?_ | refine ex_ne ?_ (by omega) | exact ex_lt (by with_reducible assumption) | rw [List.length_set] | assumption)) (by rfl) ?_
    refine ew_get (M := mX9_filtered) dX9_filtered_27 fX9_86 (by repeat (first | with_reducible assumption | refine ex_eq ?_ | refine ex_ne ?_ (by omega) | exact ex_lt (by with_reducible assumption) | rw [List.length_set] | assumption)) (by rfl) ?_
    refine ew_callV (M := mX9_filtered) dX9_filtered_30 vX9_89 (by repeat (first | with_reducible assumption | refine ex_eq ?_ | refine ex_ne ?_ (by omega) | exact ex_lt (by with_reducible assumption) | rw [List.length_set] | assumption)) rfl (sp_remember a11 b4 (by omega)) rfl (Nat.le_of_ble_eq_true rfl) ⟨Nat.le_refl _, Nat.le_refl _⟩ rfl (fun H30 r30 q30 => ?_)
    obtain ⟨rfl, hc1, hh1⟩ := q30
    have hS1 : cl_is H30 (s_rem S) := cl_hist hS hc1 hh1
    have hq1 : ex_ch H H30 cL := hc1.sub (fun k hk => Or.inl (by rw [cL_mem]; rw [hiL_mem] at hk; omega))
    obtain ⟨e1, ⟨epl, e2⟩, e3, ⟨efa, e4, e5, e6⟩, e7, e8, ⟨efk, e9, e10⟩, e11, e12, ⟨ecw, e13⟩, e14, e15⟩ := id hS1
    obtain ⟨g1, g2, g3, g4, g5⟩ := id e3
    have g4 : pis H30 4 S.2.2.1.1 := g4
    obtain ⟨-, ggs, gms, ⟨gp1, gp2, gp3⟩, -⟩ := id g4
    obtain ⟨g51, g52, g53⟩ := id g5
    have e1 : H30[0]? = some (ob 9 [.ref 1, .ref 3, .ref 9, .ref 22, .ref 23, .ref 73, .ref 77, .ref 80, .ref 83, .int S.2.1]) := e1
    have g1 : H30[3]? = some (ob 6 [.ref 4, .ref 7, .int (nI S.2.2.1.2.2.1), .int (nI S.2.2.1.2.2.2)]) := g1
    refine ew_aload_n (M := mX9_filtered) dX9_filtered_33 rfl (Or.inr (Or.inl ⟨_, rfl⟩)) ?_
    refine ew_aload_n (M := mX9_filtered) dX9_filtered_34 rfl (Or.inr (Or.inl ⟨_, rfl⟩)) ?_
    refine ew_callV (M := mX9_filtered) dX9_filtered_35 vX9_215 (by repeat (first | with_reducible assumption | refine ex_eq ?_ | refine ex_ne ?_ (by omega) | exact ex_lt (by with_reducible assumption) | rw [List.length_set] | assumption)) rfl (sp_apply (P := S.2.2.1.1) e1 g1 g2 g4 e13 e14 ha98 (hav.ch hc1 (by simp [hiL_mem] <;> omega))) rfl (Nat.le_of_ble_eq_true rfl) ⟨Nat.le_refl _, Nat.le_refl _⟩ rfl (fun H35 r35 q35 => ?_)
    obtain ⟨rfl, hc2, hw2, hsp2, hp2⟩ := q35
    refine ew_iret (M := mX9_filtered) dX9_filtered_38 rfl (by first | rfl | decide) (Nat.le_refl _) (Nat.le_refl _) ?_
    exact ⟨rfl, hq1.tr hc2 (fun k hk => Or.inl (by rw [cL_mem]; simp at hk; omega)), cl_pic hS1 (hc2.sub (by simp)) hp2 hw2 hsp2 (e15.ch hc2 (by simp) (by simp) (by simp))⟩
  · rw [cif_n hx]
    refine ew_aload_n (M := mX9_filtered) dX9_filtered_0 rfl (Or.inr (Or.inl ⟨_, rfl⟩)) ?_
    refine ew_get (M := mX9_filtered) dX9_filtered_1 fX9_19 (by repeat (first | with_reducible assumption | refine ex_eq ?_ | refine ex_ne ?_ (by omega) | exact ex_lt (by with_reducible assumption) | rw [List.length_set] | assumption)) (by rfl) ?_
    refine ew_get (M := mX9_filtered) dX9_filtered_4 fX9_120 (by repeat (first | with_reducible assumption | refine ex_eq ?_ | refine ex_ne ?_ (by omega) | exact ex_lt (by with_reducible assumption) | rw [List.length_set] | assumption)) (by rfl) ?_
    refine ew_iload_n (M := mX9_filtered) dX9_filtered_7 rfl ?_
    refine ew_callV (M := mX9_filtered) dX9_filtered_8 vX9_167 (by repeat (first | with_reducible assumption | refine ex_eq ?_ | refine ex_ne ?_ (by omega) | exact ex_lt (by with_reducible assumption) | rw [List.length_set] | assumption)) rfl (sp_numbered_n b5 hx) rfl (Nat.le_of_ble_eq_true rfl) ⟨Nat.le_refl _, Nat.le_refl _⟩ rfl (fun H8 r8 q8 => ?_)
    obtain ⟨rfl, rfl⟩ := q8
    refine ew_astore_n (M := mX9_filtered) dX9_filtered_11 (Or.inl rfl) (by decide) rfl ?_
    refine ew_aload_n (M := mX9_filtered) dX9_filtered_12 rfl (Or.inl rfl) ?_
    refine ew_ifnonnull (v := none) (M := mX9_filtered) (tgt := 19) dX9_filtered_13 rfl (fun _ h => by cases h) (fun _ => ?_)
    refine ew_ldc (M := mX9_filtered) dX9_filtered_16 kX9_141 ?_
    refine ew_iret (M := mX9_filtered) dX9_filtered_18 rfl (by first | rfl | decide) (Nat.le_refl _) (Nat.le_refl _) ?_
    exact ⟨rfl, ex_ch.rf, hS⟩
noncomputable def f_undo (S : SS) (n : Int32) : Int32 × SS := cif (nI 1 ≤ n ∧ n ≤ nI 16) (cif (n ≤ nI S.2.2.2.2.2.1.1) (nI (S.2.2.2.2.2.1.1 - n.toNatClampNeg), s_pic (s_hist S (S.2.2.2.2.2.1.1 - n.toNatClampNeg, S.2.2.2.2.2.1.2)) (S.2.2.2.2.2.1.2 (S.2.2.2.2.2.1.1 - n.toNatClampNeg))) (-1000000003, S)) (-1000000002, S)
theorem nI_of4 {x : Int32} {n : Nat} (hn : n < 2 ^ 31) (h : nI 1 ≤ x ∧ x ≤ nI n) : ∃ j, 1 ≤ j ∧ j ≤ n ∧ x = nI j := by
  obtain ⟨j, hj, rfl⟩ := nI_of3 hn ⟨Int32.le_trans (by decide) h.1, h.2⟩
  exact ⟨j, (nI_leI (by decide) (by omega)).mp h.1, hj, rfl⟩
theorem cs_undo {d : Nat} {H : ex_H} {S : SS} (hS : cl_is H S) (n : Int32) : ex_Met mX9_undo (d + 4) 0 0 H [.ref 0, .int n] (fun H' r => r = some (.int (f_undo S n).1) ∧ ex_ch H H' cL ∧ cl_is H' (f_undo S n).2) := by
  obtain ⟨a1, ⟨pl, a2⟩, a3, ⟨fa, a4, a5, a6⟩, a7, a8, ⟨fk, a9, a10⟩, a11, a12, ⟨cw, a13⟩, a14, a15⟩ := id hS
  obtain ⟨b1, b2, b3, b4, b5⟩ := id a3
  obtain ⟨⟨bz, bgm⟩, bgs, bms, ⟨bp1, bp2, bp3⟩, bct⟩ := id b4
  obtain ⟨bz1, bz2, bz3, bz4⟩ := id bz
  obtain ⟨-, -, -, old, -, a111, -⟩ := id a11
  have hc16 := a11.1
  refine ex_meth [(0, .ref 0), (1, .int n)] rfl rfl rfl (fun b => Nat.le_of_ble_eq_true rfl) ?_
  unfold f_undo
  by_cases hx : nI 1 ≤ n ∧ n ≤ nI 16
  · rw [cif_y hx]
    obtain ⟨v, hv1, hv2, rfl⟩ := nI_of4 (by decide) hx
    rw [nI_clamp (show v < 2 ^ 31 by omega)]
    by_cases h2 : nI v ≤ nI S.2.2.2.2.2.1.1
    · rw [cif_y h2]
      have h3 : v ≤ S.2.2.2.2.2.1.1 := (nI_leI (by omega) (by omega)).mp h2
      refine ew_iload_n (M := mX9_undo) dX9_undo_0 rfl ?_
      refine ew_iconst (M := mX9_undo) dX9_undo_1 (v := nI 1) (by decide) ?_
      refine ew_bipush (M := mX9_undo) dX9_undo_2 (v := nI 16) (by decide) ?_
      refine ew_callS (M := mX9_undo) dX9_undo_4 vX9_66 (sp_within_y hx.1 hx.2) rfl (Nat.le_of_ble_eq_true rfl) ⟨Nat.le_refl _, Nat.le_refl _⟩ rfl (fun H4 r4 q4 => ?_)
      obtain ⟨rfl, rfl⟩ := q4
      refine ew_if_ne (M := mX9_undo) (tgt := 13) dX9_undo_7 rfl (fun _ => ?_) (fun h => absurd h (by decide))
      refine ew_iload_n (M := mX9_undo) dX9_undo_13 rfl ?_
      refine ew_aload_n (M := mX9_undo) dX9_undo_14 rfl (Or.inr (Or.inl ⟨_, rfl⟩)) ?_
      refine ew_get (M := mX9_undo) dX9_undo_15 fX9_34 (by repeat (first | with_reducible assumption | refine ex_eq ?_ | refine ex_ne ?_ (by omega) | exact ex_lt (by with_reducible assumption) | rw [List.length_set] | assumption)) (by rfl) ?_
      refine ew_get (M := mX9_undo) dX9_undo_18 fX9_136 (by repeat (first | with_reducible assumption | refine ex_eq ?_ | refine ex_ne ?_ (by omega) | exact ex_lt (by with_reducible assumption) | rw [List.length_set] | assumption)) (by rfl) ?_
      refine ew_icmp_le (M := mX9_undo) (tgt := 27) dX9_undo_21 rfl (fun _ => ?_) (fun h => absurd h2 h)
      refine ew_aload_n (M := mX9_undo) dX9_undo_27 rfl (Or.inr (Or.inl ⟨_, rfl⟩)) ?_
      refine ew_get (M := mX9_undo) dX9_undo_28 fX9_34 (by repeat (first | with_reducible assumption | refine ex_eq ?_ | refine ex_ne ?_ (by omega) | exact ex_lt (by with_reducible assumption) | rw [List.length_set] | assumption)) (by rfl) ?_
      refine ew_iload_n (M := mX9_undo) dX9_undo_31 rfl ?_
      refine ew_aload_n (M := mX9_undo) dX9_undo_32 rfl (Or.inr (Or.inl ⟨_, rfl⟩)) ?_
      refine ew_get (M := mX9_undo) dX9_undo_33 fX9_19 (by repeat (first | with_reducible assumption | refine ex_eq ?_ | refine ex_ne ?_ (by omega) | exact ex_lt (by with_reducible assumption) | rw [List.length_set] | assumption)) (by rfl) ?_
      refine ew_get (M := mX9_undo) dX9_undo_36 fX9_86 (by repeat (first | with_reducible assumption | refine ex_eq ?_ | refine ex_ne ?_ (by omega) | exact ex_lt (by with_reducible assumption) | rw [List.length_set] | assumption)) (by rfl) ?_
      refine ew_callV (M := mX9_undo) dX9_undo_39 vX9_227 (by repeat (first | with_reducible assumption | refine ex_eq ?_ | refine ex_ne ?_ (by omega) | exact ex_lt (by with_reducible assumption) | rw [List.length_set] | assumption)) rfl (sp_takeBack a11 b4.any (by omega) hv1 h3) rfl (Nat.le_of_ble_eq_true rfl) ⟨Nat.le_refl _, Nat.le_refl _⟩ rfl (fun H39 r39 q39 => ?_)
      obtain ⟨rfl, hc1, hh1, hp1⟩ := q39
      obtain ⟨-, -, -, old1, -, hh11, -⟩ := id hh1
      have k1 := hc1.at a1 (by simp)
      refine ew_aload_n (M := mX9_undo) dX9_undo_42 rfl (Or.inr (Or.inl ⟨_, rfl⟩)) ?_
      refine ew_get (M := mX9_undo) dX9_undo_43 fX9_34 (by repeat (first | with_reducible assumption | refine ex_eq ?_ | refine ex_ne ?_ (by omega) | exact ex_lt (by with_reducible assumption) | rw [List.length_set] | assumption)) (by rfl) ?_
      refine ew_get (M := mX9_undo) dX9_undo_46 fX9_136 (by repeat (first | with_reducible assumption | refine ex_eq ?_ | refine ex_ne ?_ (by omega) | exact ex_lt (by with_reducible assumption) | rw [List.length_set] | assumption)) (by rfl) ?_
      refine ew_iret (M := mX9_undo) dX9_undo_49 rfl (by first | rfl | decide) (Nat.le_refl _) (Nat.le_refl _) ?_
      refine ⟨rfl, hc1.sub (fun k hk => Or.inl (by rw [cL_mem]; simp at hk; omega)), ?_⟩
      exact ⟨hc1.at a1 (by simp [hiL_mem] <;> omega), ⟨pl, a2.ch hc1 (by simp [hiL_mem] <;> omega) (by simp [hiL_mem] <;> omega)⟩, ⟨hc1.at b1 (by simp), b2, b3, hp1, b5.ch hc1 (by simp) (by simp) (by simp)⟩, ⟨fa, hc1.at a4 (by simp [hiL_mem] <;> omega), a5, a6⟩, a7.ch hc1 (by simp [hiL_mem] <;> (intros; omega)) (by simp [hiL_mem] <;> (intros; omega)), a8.ch hc1 (by simp [hiL_mem] <;> (intros; omega)) (by simp [hiL_mem] <;> (intros; omega)), ⟨fk, hc1.at a9 (by simp [hiL_mem] <;> omega), a10⟩, hh1, a12.ch hc1 (by simp [hiL_mem] <;> (intros; omega)), ⟨cw, a13.ch hc1 (by simp [hiL_mem] <;> omega) (by simp [hiL_mem] <;> omega) (by simp [hiL_mem] <;> omega)⟩, a14.ch hc1 (by simp [hiL_mem] <;> omega) (by simp [hiL_mem] <;> omega) (by simp [hiL_mem] <;> omega), a15.ch hc1 (by simp [hiL_mem] <;> omega) (by simp [hiL_mem] <;> omega) (by simp [hiL_mem] <;> omega)⟩
    · rw [cif_n h2]
      refine ew_iload_n (M := mX9_undo) dX9_undo_0 rfl ?_
      refine ew_iconst (M := mX9_undo) dX9_undo_1 (v := nI 1) (by decide) ?_
      refine ew_bipush (M := mX9_undo) dX9_undo_2 (v := nI 16) (by decide) ?_
      refine ew_callS (M := mX9_undo) dX9_undo_4 vX9_66 (sp_within_y hx.1 hx.2) rfl (Nat.le_of_ble_eq_true rfl) ⟨Nat.le_refl _, Nat.le_refl _⟩ rfl (fun H4 r4 q4 => ?_)
      obtain ⟨rfl, rfl⟩ := q4
      refine ew_if_ne (M := mX9_undo) (tgt := 13) dX9_undo_7 rfl (fun _ => ?_) (fun h => absurd h (by decide))
      refine ew_iload_n (M := mX9_undo) dX9_undo_13 rfl ?_
      refine ew_aload_n (M := mX9_undo) dX9_undo_14 rfl (Or.inr (Or.inl ⟨_, rfl⟩)) ?_
      refine ew_get (M := mX9_undo) dX9_undo_15 fX9_34 (by repeat (first | with_reducible assumption | refine ex_eq ?_ | refine ex_ne ?_ (by omega) | exact ex_lt (by with_reducible assumption) | rw [List.length_set] | assumption)) (by rfl) ?_
      refine ew_get (M := mX9_undo) dX9_undo_18 fX9_136 (by repeat (first | with_reducible assumption | refine ex_eq ?_ | refine ex_ne ?_ (by omega) | exact ex_lt (by with_reducible assumption) | rw [List.length_set] | assumption)) (by rfl) ?_
      refine ew_icmp_le (M := mX9_undo) (tgt := 27) dX9_undo_21 rfl (fun h => absurd h h2) (fun _ => ?_)
      refine ew_ldc (M := mX9_undo) dX9_undo_24 kX9_210 ?_
      refine ew_iret (M := mX9_undo) dX9_undo_26 rfl (by first | rfl | decide) (Nat.le_refl _) (Nat.le_refl _) ?_
      exact ⟨rfl, ex_ch.rf, hS⟩
  · rw [cif_n hx]
    refine ew_iload_n (M := mX9_undo) dX9_undo_0 rfl ?_
    refine ew_iconst (M := mX9_undo) dX9_undo_1 (v := nI 1) (by decide) ?_
    refine ew_bipush (M := mX9_undo) dX9_undo_2 (v := nI 16) (by decide) ?_
    refine ew_callS (M := mX9_undo) dX9_undo_4 vX9_66 (sp_within_n hx) rfl (Nat.le_of_ble_eq_true rfl) ⟨Nat.le_refl _, Nat.le_refl _⟩ rfl (fun H4 r4 q4 => ?_)
    obtain ⟨rfl, rfl⟩ := q4
    refine ew_if_ne (M := mX9_undo) (tgt := 13) dX9_undo_7 rfl (fun h => absurd rfl h) (fun _ => ?_)
    refine ew_ldc (M := mX9_undo) dX9_undo_10 kX9_70 ?_
    refine ew_iret (M := mX9_undo) dX9_undo_12 rfl (by first | rfl | decide) (Nat.le_refl _) (Nat.le_refl _) ?_
    exact ⟨rfl, ex_ch.rf, hS⟩
