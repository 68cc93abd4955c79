def s_img (S : SS) (i : Nat) (z : ST) : SS := (S.1, S.2.1, S.2.2.1, va_up S.2.2.2.1 i 1, va_up S.2.2.2.2.1 i z, S.2.2.2.2.2)
noncomputable def f_keep (S : SS) (i : Int32) : Int32 × SS := cif (nI 0 ≤ i ∧ i ≤ nI 1) (nI 1, s_hist (s_img S i.toNatClampNeg S.2.2.1) (0, S.2.2.2.2.2.1.2)) (-1000000001, S)
noncomputable def f_goBack (S : SS) (i : Int32) : Int32 × SS := cif (nI 0 ≤ i ∧ i ≤ nI 1) (cif (S.2.2.2.1 i.toNatClampNeg = 0) (-1000000003, S) (nI 1, s_hist (s_now S (S.2.2.2.2.1 i.toNatClampNeg)) (0, S.2.2.2.2.2.1.2))) (-1000000001, S)
noncomputable def f_againstV (P Q : PT) : Int32 := cif (P.1 = Q.1 ∧ P.2.1 = Q.2.1) (nI (pm_dother P.1 P.2.1 P.2.2.1 P.2.2.2 Q.2.2.1 Q.2.2.2)) (-1)
noncomputable def f_against (S : SS) (i : Int32) : Int32 × SS := (cif (nI 0 ≤ i ∧ i ≤ nI 1) (cif (S.2.2.2.1 i.toNatClampNeg = 0) (-1000000003) (f_againstV S.2.2.1.1 (S.2.2.2.2.1 i.toNatClampNeg).1)) (-1000000001), S)
theorem cs_keep {d : Nat} {H : ex_H} {S : SS} (hS : cl_is H S) (i : Int32) : ex_Met mX9_keep (d + 4) 0 0 H [.ref 0, .int i] (fun H' r => r = some (.int (f_keep S i).1) ∧ ex_ch H H' cL ∧ cl_is H' (f_keep S i).2) := by
  obtain ⟨a1, ⟨pl, a2⟩, a3, ⟨fa, a4, a5, a6⟩, a7, a8, ⟨fk, a9, a10⟩, a11, a12, ⟨cw, a13⟩, a14, a15⟩ := id hS
  obtain ⟨b1, b2, b3, b4, b5⟩ := id a3
  obtain ⟨⟨bz, bgm⟩, bgs, bms, ⟨bp1, bp2, bp3⟩, bct⟩ := id b4
  obtain ⟨bz1, bz2, bz3, bz4⟩ := id bz
  obtain ⟨-, -, -, old, -, a111, -⟩ := id a11
  have a71 := a7.1
  have a81 := a8.1
  refine ex_meth [(0, .ref 0), (1, .int i)] rfl rfl rfl (fun b => Nat.le_of_ble_eq_true rfl) ?_
  unfold f_keep
  by_cases hx : nI 0 ≤ i ∧ i ≤ nI 1
  · rw [cif_y hx]
    obtain ⟨v, hv, rfl⟩ := nI_of3 (by decide) hx
    rw [nI_clamp (show v < 2 ^ 31 by omega)]
    rcases (show v = 0 ∨ v = 1 by omega) with rfl | rfl
    · refine ew_iload_n (M := mX9_keep) dX9_keep_0 rfl ?_
      refine ew_iconst (M := mX9_keep) dX9_keep_1 (v := nI 0) (by decide) ?_
      refine ew_iconst (M := mX9_keep) dX9_keep_2 (v := nI 1) (by decide) ?_
      refine ew_callS (M := mX9_keep) dX9_keep_3 vX9_66 (sp_within_y hx.1 hx.2) rfl (Nat.le_of_ble_eq_true rfl) ⟨Nat.le_refl _, Nat.le_refl _⟩ rfl (fun H3 r3 q3 => ?_)
      obtain ⟨rfl, rfl⟩ := q3
      refine ew_if_ne (M := mX9_keep) (tgt := 12) dX9_keep_6 rfl (fun _ => ?_) (fun h => absurd h (by decide))
      refine ew_aload_n (M := mX9_keep) dX9_keep_12 rfl (Or.inr (Or.inl ⟨_, rfl⟩)) ?_
      refine ew_get (M := mX9_keep) dX9_keep_13 fX9_23 (by repeat (first | with_reducible assumption | refine ex_eq ?_ | refine ex_ne ?_ (by omega) | exact ex_lt (by with_reducible assumption) | rw [List.length_set] | assumption)) (by rfl) ?_
      refine ew_iload_n (M := mX9_keep) dX9_keep_16 rfl ?_
      refine ew_aald (t0 := 4) (M := mX9_keep) 0 dX9_keep_17 (by repeat (first | with_reducible assumption | refine ex_eq ?_ | refine ex_ne ?_ (by omega) | exact ex_lt (by with_reducible assumption) | rw [List.length_set] | assumption)) (fun _ => rfl) ⟨rfl, by decide, by decide⟩ ?_
      rw [a5]
      refine ew_aload_n (M := mX9_keep) dX9_keep_18 rfl (Or.inr (Or.inl ⟨_, rfl⟩)) ?_
      refine ew_get (M := mX9_keep) dX9_keep_19 fX9_19 (by repeat (first | with_reducible assumption | refine ex_eq ?_ | refine ex_ne ?_ (by omega) | exact ex_lt (by with_reducible assumption) | rw [List.length_set] | assumption)) (by rfl) ?_
      refine ew_callV (M := mX9_keep) dX9_keep_22 vX9_234 (by repeat (first | with_reducible assumption | refine ex_eq ?_ | refine ex_ne ?_ (by omega) | exact ex_lt (by with_reducible assumption) | rw [List.length_set] | assumption)) rfl (sp_sbecome a7 a3 (by omega) (by omega) (by omega)) rfl (Nat.le_of_ble_eq_true rfl) ⟨Nat.le_refl _, Nat.le_refl _⟩ rfl (fun H22 r22 q22 => ?_)
      obtain ⟨rfl, hc1, hs1⟩ := q22
      have k1 := hc1.at a1 (by simp)
      have k9 := hc1.at a9 (by simp)
      have k11 := a11.ch hc1 (by simp)
      refine ew_aload_n (M := mX9_keep) dX9_keep_25 rfl (Or.inr (Or.inl ⟨_, rfl⟩)) ?_
      refine ew_get (M := mX9_keep) dX9_keep_26 fX9_27 (by repeat (first | with_reducible assumption | refine ex_eq ?_ | refine ex_ne ?_ (by omega) | exact ex_lt (by with_reducible assumption) | rw [List.length_set] | assumption)) (by rfl) ?_
      refine ew_iload_n (M := mX9_keep) dX9_keep_29 rfl ?_
      refine ew_iconst (M := mX9_keep) dX9_keep_30 (v := nI 1) (by decide) ?_
      refine ew_zast (M := mX9_keep) 0 dX9_keep_31 (by repeat (first | with_reducible assumption | refine ex_eq ?_ | refine ex_ne ?_ (by omega) | exact ex_lt (by with_reducible assumption) | rw [List.length_set] | assumption)) ⟨rfl, by decide, by decide⟩ (by decide) ?_
      refine ew_aload_n (M := mX9_keep) dX9_keep_32 rfl (Or.inr (Or.inl ⟨_, rfl⟩)) ?_
      obtain ⟨-, -, -, old1, -, k111, -⟩ := id k11
      refine ew_get (M := mX9_keep) dX9_keep_33 fX9_34 (by repeat (first | with_reducible assumption | refine ex_eq ?_ | refine ex_ne ?_ (by omega) | exact ex_lt (by with_reducible assumption) | rw [List.length_set] | assumption)) (by rfl) ?_
      refine ew_callV (M := mX9_keep) dX9_keep_36 vX9_237 (by repeat (first | with_reducible assumption | refine ex_eq ?_ | refine ex_ne ?_ (by omega) | exact ex_lt (by with_reducible assumption) | rw [List.length_set] | assumption)) rfl (sp_forget (k11.ch (L := [22]) (ex_ch.rf.set (by simp)) (by simp))) rfl (Nat.le_of_ble_eq_true rfl) ⟨Nat.le_refl _, Nat.le_refl _⟩ rfl (fun H36 r36 q36 => ?_)
      obtain ⟨rfl, hc3, hh3⟩ := q36
      refine ew_iconst (M := mX9_keep) dX9_keep_39 (v := nI 1) (by decide) ?_
      refine ew_iret (M := mX9_keep) dX9_keep_40 rfl (by first | rfl | decide) (Nat.le_refl _) (Nat.le_refl _) ?_
      have hcA : ex_ch H H36 ([22, 23] ++ [10, 11, 12, 13, 14, 15]) := ((hc1.sub (by simp)).set (by simp)).tr hc3 (by simp)
      have hs1x : st_is H36 10 S.2.2.1 := (hs1.ch (L := [22]) (ex_ch.rf.set (by simp)) (by simp) (by simp)).ch hc3 (by simp) (by simp)
      refine ⟨rfl, hcA.sub (fun k hk => Or.inl (by rw [cL_mem]; simp at hk; omega)), ?_⟩
      exact ⟨hcA.at a1 (by simp [hiL_mem] <;> omega), ⟨pl, a2.ch hcA (by simp [hiL_mem] <;> omega) (by simp [hiL_mem] <;> omega)⟩, a3.ch hcA (by simp [hiL_mem] <;> (intros; omega)) (by simp [hiL_mem] <;> (intros; omega)), ⟨fa, hcA.at a4 (by simp [hiL_mem] <;> omega), a5, a6⟩, hs1x, a8.ch hcA (by simp [hiL_mem] <;> (intros; omega)) (by simp [hiL_mem] <;> (intros; omega)), ⟨_, hc3.at (ex_eq (ex_lt k9)) (by simp), (fun k hk => by
        rcases (show k = 0 ∨ k = 1 by omega) with rfl | rfl
        · exact ⟨rfl, by show 1 < 2; decide⟩
        · exact ⟨by show (if (1 : Nat) = 0 then nI 1 else fk 1) = _; rw [if_neg (by decide)]; exact (a10 1 (by decide)).1, (a10 1 (by decide)).2⟩)⟩, hh3, a12.ch hcA (by simp [hiL_mem] <;> (intros; omega)), ⟨cw, a13.ch hcA (by simp [hiL_mem] <;> omega) (by simp [hiL_mem] <;> omega) (by simp [hiL_mem] <;> omega)⟩, a14.ch hcA (by simp [hiL_mem] <;> omega) (by simp [hiL_mem] <;> omega) (by simp [hiL_mem] <;> omega), a15.ch hcA (by simp [hiL_mem] <;> omega) (by simp [hiL_mem] <;> omega) (by simp [hiL_mem] <;> omega)⟩
    · refine ew_iload_n (M := mX9_keep) dX9_keep_0 rfl ?_
      refine ew_iconst (M := mX9_keep) dX9_keep_1 (v := nI 0) (by decide) ?_
      refine ew_iconst (M := mX9_keep) dX9_keep_2 (v := nI 1) (by decide) ?_
      refine ew_callS (M := mX9_keep) dX9_keep_3 vX9_66 (sp_within_y hx.1 hx.2) rfl (Nat.le_of_ble_eq_true rfl) ⟨Nat.le_refl _, Nat.le_refl _⟩ rfl (fun H3 r3 q3 => ?_)
      obtain ⟨rfl, rfl⟩ := q3
      refine ew_if_ne (M := mX9_keep) (tgt := 12) dX9_keep_6 rfl (fun _ => ?_) (fun h => absurd h (by decide))
      refine ew_aload_n (M := mX9_keep) dX9_keep_12 rfl (Or.inr (Or.inl ⟨_, rfl⟩)) ?_
      refine ew_get (M := mX9_keep) dX9_keep_13 fX9_23 (by repeat (first | with_reducible assumption | refine ex_eq ?_ | refine ex_ne ?_ (by omega) | exact ex_lt (by with_reducible assumption) | rw [List.length_set] | assumption)) (by rfl) ?_
      refine ew_iload_n (M := mX9_keep) dX9_keep_16 rfl ?_
      refine ew_aald (t0 := 4) (M := mX9_keep) 1 dX9_keep_17 (by repeat (first | with_reducible assumption | refine ex_eq ?_ | refine ex_ne ?_ (by omega) | exact ex_lt (by with_reducible assumption) | rw [List.length_set] | assumption)) (fun _ => rfl) ⟨rfl, by decide, by decide⟩ ?_
      rw [a6]
      refine ew_aload_n (M := mX9_keep) dX9_keep_18 rfl (Or.inr (Or.inl ⟨_, rfl⟩)) ?_
      refine ew_get (M := mX9_keep) dX9_keep_19 fX9_19 (by repeat (first | with_reducible assumption | refine ex_eq ?_ | refine ex_ne ?_ (by omega) | exact ex_lt (by with_reducible assumption) | rw [List.length_set] | assumption)) (by rfl) ?_
      refine ew_callV (M := mX9_keep) dX9_keep_22 vX9_234 (by repeat (first | with_reducible assumption | refine ex_eq ?_ | refine ex_ne ?_ (by omega) | exact ex_lt (by with_reducible assumption) | rw [List.length_set] | assumption)) rfl (sp_sbecome a8 a3 (by omega) (by omega) (by omega)) rfl (Nat.le_of_ble_eq_true rfl) ⟨Nat.le_refl _, Nat.le_refl _⟩ rfl (fun H22 r22 q22 => ?_)
      obtain ⟨rfl, hc1, hs1⟩ := q22
      have k1 := hc1.at a1 (by simp)
      have k9 := hc1.at a9 (by simp)
      have k11 := a11.ch hc1 (by simp)
      refine ew_aload_n (M := mX9_keep) dX9_keep_25 rfl (Or.inr (Or.inl ⟨_, rfl⟩)) ?_
      refine ew_get (M := mX9_keep) dX9_keep_26 fX9_27 (by repeat (first | with_reducible assumption | refine ex_eq ?_ | refine ex_ne ?_ (by omega) | exact ex_lt (by with_reducible assumption) | rw [List.length_set] | assumption)) (by rfl) ?_
      refine ew_iload_n (M := mX9_keep) dX9_keep_29 rfl ?_
      refine ew_iconst (M := mX9_keep) dX9_keep_30 (v := nI 1) (by decide) ?_
      refine ew_zast (M := mX9_keep) 1 dX9_keep_31 (by repeat (first | with_reducible assumption | refine ex_eq ?_ | refine ex_ne ?_ (by omega) | exact ex_lt (by with_reducible assumption) | rw [List.length_set] | assumption)) ⟨rfl, by decide, by decide⟩ (by decide) ?_
      refine ew_aload_n (M := mX9_keep) dX9_keep_32 rfl (Or.inr (Or.inl ⟨_, rfl⟩)) ?_
      obtain ⟨-, -, -, old1, -, k111, -⟩ := id k11
      refine ew_get (M := mX9_keep) dX9_keep_33 fX9_34 (by repeat (first | with_reducible assumption | refine ex_eq ?_ | refine ex_ne ?_ (by omega) | exact ex_lt (by with_reducible assumption) | rw [List.length_set] | assumption)) (by rfl) ?_
      refine ew_callV (M := mX9_keep) dX9_keep_36 vX9_237 (by repeat (first | with_reducible assumption | refine ex_eq ?_ | refine ex_ne ?_ (by omega) | exact ex_lt (by with_reducible assumption) | rw [List.length_set] | assumption)) rfl (sp_forget (k11.ch (L := [22]) (ex_ch.rf.set (by simp)) (by simp))) rfl (Nat.le_of_ble_eq_true rfl) ⟨Nat.le_refl _, Nat.le_refl _⟩ rfl (fun H36 r36 q36 => ?_)
      obtain ⟨rfl, hc3, hh3⟩ := q36
      refine ew_iconst (M := mX9_keep) dX9_keep_39 (v := nI 1) (by decide) ?_
      refine ew_iret (M := mX9_keep) dX9_keep_40 rfl (by first | rfl | decide) (Nat.le_refl _) (Nat.le_refl _) ?_
      have hcA : ex_ch H H36 ([22, 23] ++ [16, 17, 18, 19, 20, 21]) := ((hc1.sub (by simp)).set (by simp)).tr hc3 (by simp)
      have hs1x : st_is H36 16 S.2.2.1 := (hs1.ch (L := [22]) (ex_ch.rf.set (by simp)) (by simp) (by simp)).ch hc3 (by simp) (by simp)
      refine ⟨rfl, hcA.sub (fun k hk => Or.inl (by rw [cL_mem]; simp at hk; omega)), ?_⟩
      exact ⟨hcA.at a1 (by simp [hiL_mem] <;> omega), ⟨pl, a2.ch hcA (by simp [hiL_mem] <;> omega) (by simp [hiL_mem] <;> omega)⟩, a3.ch hcA (by simp [hiL_mem] <;> (intros; omega)) (by simp [hiL_mem] <;> (intros; omega)), ⟨fa, hcA.at a4 (by simp [hiL_mem] <;> omega), a5, a6⟩, a7.ch hcA (by simp [hiL_mem] <;> (intros; omega)) (by simp [hiL_mem] <;> (intros; omega)), hs1x, ⟨_, hc3.at (ex_eq (ex_lt k9)) (by simp), (fun k hk => by
        rcases (show k = 0 ∨ k = 1 by omega) with rfl | rfl
        · exact ⟨by show (if (0 : Nat) = 1 then nI 1 else fk 0) = _; rw [if_neg (by decide)]; exact (a10 0 (by decide)).1, (a10 0 (by decide)).2⟩
        · exact ⟨rfl, by show 1 < 2; decide⟩)⟩, hh3, a12.ch hcA (by simp [hiL_mem] <;> (intros; omega)), ⟨cw, a13.ch hcA (by simp [hiL_mem] <;> omega) (by simp [hiL_mem] <;> omega) (by simp [hiL_mem] <;> omega)⟩, a14.ch hcA (by simp [hiL_mem] <;> omega) (by simp [hiL_mem] <;> omega) (by simp [hiL_mem] <;> omega), a15.ch hcA (by simp [hiL_mem] <;> omega) (by simp [hiL_mem] <;> omega) (by simp [hiL_mem] <;> omega)⟩
  · rw [cif_n hx]
    refine ew_iload_n (M := mX9_keep) dX9_keep_0 rfl ?_
    refine ew_iconst (M := mX9_keep) dX9_keep_1 (v := nI 0) (by decide) ?_
    refine ew_iconst (M := mX9_keep) dX9_keep_2 (v := nI 1) (by decide) ?_
    refine ew_callS (M := mX9_keep) dX9_keep_3 vX9_66 (sp_within_n hx) rfl (Nat.le_of_ble_eq_true rfl) ⟨Nat.le_refl _, Nat.le_refl _⟩ rfl (fun H3 r3 q3 => ?_)
    obtain ⟨rfl, rfl⟩ := q3
    refine ew_if_ne (M := mX9_keep) (tgt := 12) dX9_keep_6 rfl (fun h => absurd rfl h) (fun _ => ?_)
    refine ew_ldc (M := mX9_keep) dX9_keep_9 kX9_141 ?_
    refine ew_iret (M := mX9_keep) dX9_keep_11 rfl (by first | rfl | decide) (Nat.le_refl _) (Nat.le_refl _) ?_
    exact ⟨rfl, ex_ch.rf, hS⟩
theorem cs_goBack {d : Nat} {H : ex_H} {S : SS} (hS : cl_is H S) (i : Int32) : ex_Met mX9_goBack (d + 4) 0 0 H [.ref 0, .int i] (fun H' r => r = some (.int (f_goBack S i).1) ∧ ex_ch H H' cL ∧ cl_is H' (f_goBack S i).2) := by
  obtain ⟨a1, ⟨pl, a2⟩, a3, ⟨fa, a4, a5, a6⟩, a7, a8, ⟨fk, a9, a10⟩, a11, a12, ⟨cw, a13⟩, a14, a15⟩ := id hS
  obtain ⟨b1, b2, b3, b4, b5⟩ := id a3
  obtain ⟨⟨bz, bgm⟩, bgs, bms, ⟨bp1, bp2, bp3⟩, bct⟩ := id b4
  obtain ⟨bz1, bz2, bz3, bz4⟩ := id bz
  obtain ⟨-, -, -, old, -, a111, -⟩ := id a11
  have a71 := a7.1
  have a81 := a8.1
  refine ex_meth [(0, .ref 0), (1, .int i)] rfl rfl rfl (fun b => Nat.le_of_ble_eq_true rfl) ?_
  unfold f_goBack
  by_cases hx : nI 0 ≤ i ∧ i ≤ nI 1
  · rw [cif_y hx]
    obtain ⟨v, hv, rfl⟩ := nI_of3 (by decide) hx
    rw [nI_clamp (show v < 2 ^ 31 by omega)]
    obtain ⟨kv1, kv2⟩ := a10 v (by omega)
    by_cases h0 : S.2.2.2.1 v = 0
    · rw [cif_y h0]
      refine ew_iload_n (M := mX9_goBack) dX9_goBack_0 rfl ?_
      refine ew_iconst (M := mX9_goBack) dX9_goBack_1 (v := nI 0) (by decide) ?_
      refine ew_iconst (M := mX9_goBack) dX9_goBack_2 (v := nI 1) (by decide) ?_
      refine ew_callS (M := mX9_goBack) dX9_goBack_3 vX9_66 (sp_within_y hx.1 hx.2) rfl (Nat.le_of_ble_eq_true rfl) ⟨Nat.le_refl _, Nat.le_refl _⟩ rfl (fun H3 r3 q3 => ?_)
      obtain ⟨rfl, rfl⟩ := q3
      refine ew_if_ne (M := mX9_goBack) (tgt := 12) dX9_goBack_6 rfl (fun _ => ?_) (fun h => absurd h (by decide))
      refine ew_aload_n (M := mX9_goBack) dX9_goBack_12 rfl (Or.inr (Or.inl ⟨_, rfl⟩)) ?_
      refine ew_get (M := mX9_goBack) dX9_goBack_13 fX9_27 (by repeat (first | with_reducible assumption | refine ex_eq ?_ | refine ex_ne ?_ (by omega) | exact ex_lt (by with_reducible assumption) | rw [List.length_set] | assumption)) (by rfl) ?_
      refine ew_iload_n (M := mX9_goBack) dX9_goBack_16 rfl ?_
      refine ew_zald (M := mX9_goBack) v dX9_goBack_17 (by repeat (first | with_reducible assumption | refine ex_eq ?_ | refine ex_ne ?_ (by omega) | exact ex_lt (by with_reducible assumption) | rw [List.length_set] | assumption)) ⟨rfl, by omega, by decide⟩ ?_
      rw [kv1]
      refine ew_if_ne (M := mX9_goBack) (tgt := 24) dX9_goBack_18 rfl (fun h => absurd (by rw [h0]; rfl) h) (fun _ => ?_)
      refine ew_ldc (M := mX9_goBack) dX9_goBack_21 kX9_210 ?_
      refine ew_iret (M := mX9_goBack) dX9_goBack_23 rfl (by first | rfl | decide) (Nat.le_refl _) (Nat.le_refl _) ?_
      exact ⟨rfl, ex_ch.rf, hS⟩
    · rw [cif_n h0]
      rcases (show v = 0 ∨ v = 1 by omega) with rfl | rfl
      · refine ew_iload_n (M := mX9_goBack) dX9_goBack_0 rfl ?_
        refine ew_iconst (M := mX9_goBack) dX9_goBack_1 (v := nI 0) (by decide) ?_
        refine ew_iconst (M := mX9_goBack) dX9_goBack_2 (v := nI 1) (by decide) ?_
        refine ew_callS (M := mX9_goBack) dX9_goBack_3 vX9_66 (sp_within_y hx.1 hx.2) rfl (Nat.le_of_ble_eq_true rfl) ⟨Nat.le_refl _, Nat.le_refl _⟩ rfl (fun H3 r3 q3 => ?_)
        obtain ⟨rfl, rfl⟩ := q3
        refine ew_if_ne (M := mX9_goBack) (tgt := 12) dX9_goBack_6 rfl (fun _ => ?_) (fun h => absurd h (by decide))
        refine ew_aload_n (M := mX9_goBack) dX9_goBack_12 rfl (Or.inr (Or.inl ⟨_, rfl⟩)) ?_
        refine ew_get (M := mX9_goBack) dX9_goBack_13 fX9_27 (by repeat (first | with_reducible assumption | refine ex_eq ?_ | refine ex_ne ?_ (by omega) | exact ex_lt (by with_reducible assumption) | rw [List.length_set] | assumption)) (by rfl) ?_
        refine ew_iload_n (M := mX9_goBack) dX9_goBack_16 rfl ?_
        refine ew_zald (M := mX9_goBack) 0 dX9_goBack_17 (by repeat (first | with_reducible assumption | refine ex_eq ?_ | refine ex_ne ?_ (by omega) | exact ex_lt (by with_reducible assumption) | rw [List.length_set] | assumption)) ⟨rfl, by decide, by decide⟩ ?_
        rw [kv1]
        refine ew_if_ne (M := mX9_goBack) (tgt := 24) dX9_goBack_18 rfl (fun _ => ?_) (fun h => absurd h (nI_n0 (by omega) (by omega)))
        refine ew_aload_n (M := mX9_goBack) dX9_goBack_24 rfl (Or.inr (Or.inl ⟨_, rfl⟩)) ?_
        refine ew_get (M := mX9_goBack) dX9_goBack_25 fX9_19 (by repeat (first | with_reducible assumption | refine ex_eq ?_ | refine ex_ne ?_ (by omega) | exact ex_lt (by with_reducible assumption) | rw [List.length_set] | assumption)) (by rfl) ?_
        refine ew_aload_n (M := mX9_goBack) dX9_goBack_28 rfl (Or.inr (Or.inl ⟨_, rfl⟩)) ?_
        refine ew_get (M := mX9_goBack) dX9_goBack_29 fX9_23 (by repeat (first | with_reducible assumption | refine ex_eq ?_ | refine ex_ne ?_ (by omega) | exact ex_lt (by with_reducible assumption) | rw [List.length_set] | assumption)) (by rfl) ?_
        refine ew_iload_n (M := mX9_goBack) dX9_goBack_32 rfl ?_
        refine ew_aald (t0 := 4) (M := mX9_goBack) 0 dX9_goBack_33 (by repeat (first | with_reducible assumption | refine ex_eq ?_ | refine ex_ne ?_ (by omega) | exact ex_lt (by with_reducible assumption) | rw [List.length_set] | assumption)) (fun _ => rfl) ⟨rfl, by decide, by decide⟩ ?_
        rw [a5]
        refine ew_callV (M := mX9_goBack) dX9_goBack_34 vX9_234 (by repeat (first | with_reducible assumption | refine ex_eq ?_ | refine ex_ne ?_ (by omega) | exact ex_lt (by with_reducible assumption) | rw [List.length_set] | assumption)) rfl (sp_sbecome a3 a7 (by omega) (by omega) (by omega)) rfl (Nat.le_of_ble_eq_true rfl) ⟨Nat.le_refl _, Nat.le_refl _⟩ rfl (fun H34 r34 q34 => ?_)
        obtain ⟨rfl, hc1, hs1⟩ := q34
        have k1 := hc1.at a1 (by simp)
        have k11 := a11.ch hc1 (by simp)
        obtain ⟨-, -, -, old1, -, k111, -⟩ := id k11
        refine ew_aload_n (M := mX9_goBack) dX9_goBack_37 rfl (Or.inr (Or.inl ⟨_, rfl⟩)) ?_
        refine ew_get (M := mX9_goBack) dX9_goBack_38 fX9_34 (by repeat (first | with_reducible assumption | refine ex_eq ?_ | refine ex_ne ?_ (by omega) | exact ex_lt (by with_reducible assumption) | rw [List.length_set] | assumption)) (by rfl) ?_
        refine ew_callV (M := mX9_goBack) dX9_goBack_41 vX9_237 (by repeat (first | with_reducible assumption | refine ex_eq ?_ | refine ex_ne ?_ (by omega) | exact ex_lt (by with_reducible assumption) | rw [List.length_set] | assumption)) rfl (sp_forget k11) rfl (Nat.le_of_ble_eq_true rfl) ⟨Nat.le_refl _, Nat.le_refl _⟩ rfl (fun H41 r41 q41 => ?_)
        obtain ⟨rfl, hc3, hh3⟩ := q41
        refine ew_iconst (M := mX9_goBack) dX9_goBack_44 (v := nI 1) (by decide) ?_
        refine ew_iret (M := mX9_goBack) dX9_goBack_45 rfl (by first | rfl | decide) (Nat.le_refl _) (Nat.le_refl _) ?_
        have hcA : ex_ch H H41 [23, 3, 4, 5, 6, 7, 8] := (hc1.sub (by simp)).tr hc3 (by simp)
        refine ⟨rfl, hcA.sub (fun k hk => Or.inl (by rw [cL_mem]; simp at hk; omega)), ?_⟩
        exact ⟨hcA.at a1 (by simp [hiL_mem] <;> omega), ⟨pl, a2.ch hcA (by simp [hiL_mem] <;> omega) (by simp [hiL_mem] <;> omega)⟩, hs1.ch hc3 (by simp) (by simp), ⟨fa, hcA.at a4 (by simp [hiL_mem] <;> omega), a5, a6⟩, a7.ch hcA (by simp [hiL_mem] <;> (intros; omega)) (by simp [hiL_mem] <;> (intros; omega)), a8.ch hcA (by simp [hiL_mem] <;> (intros; omega)) (by simp [hiL_mem] <;> (intros; omega)), ⟨fk, hcA.at a9 (by simp [hiL_mem] <;> omega), a10⟩, hh3, a12.ch hcA (by simp [hiL_mem] <;> (intros; omega)), ⟨cw, a13.ch hcA (by simp [hiL_mem] <;> omega) (by simp [hiL_mem] <;> omega) (by simp [hiL_mem] <;> omega)⟩, a14.ch hcA (by simp [hiL_mem] <;> omega) (by simp [hiL_mem] <;> omega) (by simp [hiL_mem] <;> omega), a15.ch hcA (by simp [hiL_mem] <;> omega) (by simp [hiL_mem] <;> omega) (by simp [hiL_mem] <;> omega)⟩
      · refine ew_iload_n (M := mX9_goBack) dX9_goBack_0 rfl ?_
        refine ew_iconst (M := mX9_goBack) dX9_goBack_1 (v := nI 0) (by decide) ?_
        refine ew_iconst (M := mX9_goBack) dX9_goBack_2 (v := nI 1) (by decide) ?_
        refine ew_callS (M := mX9_goBack) dX9_goBack_3 vX9_66 (sp_within_y hx.1 hx.2) rfl (Nat.le_of_ble_eq_true rfl) ⟨Nat.le_refl _, Nat.le_refl _⟩ rfl (fun H3 r3 q3 => ?_)
        obtain ⟨rfl, rfl⟩ := q3
        refine ew_if_ne (M := mX9_goBack) (tgt := 12) dX9_goBack_6 rfl (fun _ => ?_) (fun h => absurd h (by decide))
        refine ew_aload_n (M := mX9_goBack) dX9_goBack_12 rfl (Or.inr (Or.inl ⟨_, rfl⟩)) ?_
        refine ew_get (M := mX9_goBack) dX9_goBack_13 fX9_27 (by repeat (first | with_reducible assumption | refine ex_eq ?_ | refine ex_ne ?_ (by omega) | exact ex_lt (by with_reducible assumption) | rw [List.length_set] | assumption)) (by rfl) ?_
        refine ew_iload_n (M := mX9_goBack) dX9_goBack_16 rfl ?_
        refine ew_zald (M := mX9_goBack) 1 dX9_goBack_17 (by repeat (first | with_reducible assumption | refine ex_eq ?_ | refine ex_ne ?_ (by omega) | exact ex_lt (by with_reducible assumption) | rw [List.length_set] | assumption)) ⟨rfl, by decide, by decide⟩ ?_
        rw [kv1]
        refine ew_if_ne (M := mX9_goBack) (tgt := 24) dX9_goBack_18 rfl (fun _ => ?_) (fun h => absurd h (nI_n0 (by omega) (by omega)))
        refine ew_aload_n (M := mX9_goBack) dX9_goBack_24 rfl (Or.inr (Or.inl ⟨_, rfl⟩)) ?_
        refine ew_get (M := mX9_goBack) dX9_goBack_25 fX9_19 (by repeat (first | with_reducible assumption | refine ex_eq ?_ | refine ex_ne ?_ (by omega) | exact ex_lt (by with_reducible assumption) | rw [List.length_set] | assumption)) (by rfl) ?_
        refine ew_aload_n (M := mX9_goBack) dX9_goBack_28 rfl (Or.inr (Or.inl ⟨_, rfl⟩)) ?_
        refine ew_get (M := mX9_goBack) dX9_goBack_29 fX9_23 (by repeat (first | with_reducible assumption | refine ex_eq ?_ | refine ex_ne ?_ (by omega) | exact ex_lt (by with_reducible assumption) | rw [List.length_set] | assumption)) (by rfl) ?_
        refine ew_iload_n (M := mX9_goBack) dX9_goBack_32 rfl ?_
        refine ew_aald (t0 := 4) (M := mX9_goBack) 1 dX9_goBack_33 (by repeat (first | with_reducible assumption | refine ex_eq ?_ | refine ex_ne ?_ (by omega) | exact ex_lt (by with_reducible assumption) | rw [List.length_set] | assumption)) (fun _ => rfl) ⟨rfl, by decide, by decide⟩ ?_
        rw [a6]
        refine ew_callV (M := mX9_goBack) dX9_goBack_34 vX9_234 (by repeat (first | with_reducible assumption | refine ex_eq ?_ | refine ex_ne ?_ (by omega) | exact ex_lt (by with_reducible assumption) | rw [List.length_set] | assumption)) rfl (sp_sbecome a3 a8 (by omega) (by omega) (by omega)) rfl (Nat.le_of_ble_eq_true rfl) ⟨Nat.le_refl _, Nat.le_refl _⟩ rfl (fun H34 r34 q34 => ?_)
        obtain ⟨rfl, hc1, hs1⟩ := q34
        have k1 := hc1.at a1 (by simp)
        have k11 := a11.ch hc1 (by simp)
        obtain ⟨-, -, -, old1, -, k111, -⟩ := id k11
        refine ew_aload_n (M := mX9_goBack) dX9_goBack_37 rfl (Or.inr (Or.inl ⟨_, rfl⟩)) ?_
        refine ew_get (M := mX9_goBack) dX9_goBack_38 fX9_34 (by repeat (first | with_reducible assumption | refine ex_eq ?_ | refine ex_ne ?_ (by omega) | exact ex_lt (by with_reducible assumption) | rw [List.length_set] | assumption)) (by rfl) ?_
        refine ew_callV (M := mX9_goBack) dX9_goBack_41 vX9_237 (by repeat (first | with_reducible assumption | refine ex_eq ?_ | refine ex_ne ?_ (by omega) | exact ex_lt (by with_reducible assumption) | rw [List.length_set] | assumption)) rfl (sp_forget k11) rfl (Nat.le_of_ble_eq_true rfl) ⟨Nat.le_refl _, Nat.le_refl _⟩ rfl (fun H41 r41 q41 => ?_)
        obtain ⟨rfl, hc3, hh3⟩ := q41
        refine ew_iconst (M := mX9_goBack) dX9_goBack_44 (v := nI 1) (by decide) ?_
        refine ew_iret (M := mX9_goBack) dX9_goBack_45 rfl (by first | rfl | decide) (Nat.le_refl _) (Nat.le_refl _) ?_
        have hcA : ex_ch H H41 [23, 3, 4, 5, 6, 7, 8] := (hc1.sub (by simp)).tr hc3 (by simp)
        refine ⟨rfl, hcA.sub (fun k hk => Or.inl (by rw [cL_mem]; simp at hk; omega)), ?_⟩
        exact ⟨hcA.at a1 (by simp [hiL_mem] <;> omega), ⟨pl, a2.ch hcA (by simp [hiL_mem] <;> omega) (by simp [hiL_mem] <;> omega)⟩, hs1.ch hc3 (by simp) (by simp), ⟨fa, hcA.at a4 (by simp [hiL_mem] <;> omega), a5, a6⟩, a7.ch hcA (by simp [hiL_mem] <;> (intros; omega)) (by simp [hiL_mem] <;> (intros; omega)), a8.ch hcA (by simp [hiL_mem] <;> (intros; omega)) (by simp [hiL_mem] <;> (intros; omega)), ⟨fk, hcA.at a9 (by simp [hiL_mem] <;> omega), a10⟩, hh3, a12.ch hcA (by simp [hiL_mem] <;> (intros; omega)), ⟨cw, a13.ch hcA (by simp [hiL_mem] <;> omega) (by simp [hiL_mem] <;> omega) (by simp [hiL_mem] <;> omega)⟩, a14.ch hcA (by simp [hiL_mem] <;> omega) (by simp [hiL_mem] <;> omega) (by simp [hiL_mem] <;> omega), a15.ch hcA (by simp [hiL_mem] <;> omega) (by simp [hiL_mem] <;> omega) (by simp [hiL_mem] <;> omega)⟩
  · rw [cif_n hx]
    refine ew_iload_n (M := mX9_goBack) dX9_goBack_0 rfl ?_
    refine ew_iconst (M := mX9_goBack) dX9_goBack_1 (v := nI 0) (by decide) ?_
    refine ew_iconst (M := mX9_goBack) dX9_goBack_2 (v := nI 1) (by decide) ?_
    refine ew_callS (M := mX9_goBack) dX9_goBack_3 vX9_66 (sp_within_n hx) rfl (Nat.le_of_ble_eq_true rfl) ⟨Nat.le_refl _, Nat.le_refl _⟩ rfl (fun H3 r3 q3 => ?_)
    obtain ⟨rfl, rfl⟩ := q3
    refine ew_if_ne (M := mX9_goBack) (tgt := 12) dX9_goBack_6 rfl (fun h => absurd rfl h) (fun _ => ?_)
    refine ew_ldc (M := mX9_goBack) dX9_goBack_9 kX9_141 ?_
    refine ew_iret (M := mX9_goBack) dX9_goBack_11 rfl (by first | rfl | decide) (Nat.le_refl _) (Nat.le_refl _) ?_
    exact ⟨rfl, ex_ch.rf, hS⟩
theorem cs_against {d : Nat} {H : ex_H} {S : SS} (hS : cl_is H S) (i : Int32) : ex_Met mX9_against (d + 3) 0 0 H [.ref 0, .int i] (fun H' r => r = some (.int (f_against S i).1) ∧ ex_ch H H' cL ∧ cl_is H' (f_against S i).2) := by
  obtain ⟨a1, ⟨pl, a2⟩, a3, ⟨fa, a4, a5, a6⟩, a7, a8, ⟨fk, a9, a10⟩, a11, a12, ⟨cw, a13⟩, a14, a15⟩ := id hS
  obtain ⟨b1, b2, b3, b4, b5⟩ := id a3
  obtain ⟨⟨bz, bgm⟩, bgs, bms, ⟨bp1, bp2, bp3⟩, bct⟩ := id b4
  obtain ⟨bz1, bz2, bz3, bz4⟩ := id bz
  obtain ⟨-, -, -, old, -, a111, -⟩ := id a11
  have a71 := a7.1
  have a81 := a8.1
  refine ex_meth [(0, .ref 0), (1, .int i)] rfl rfl rfl (fun b => Nat.le_of_ble_eq_true rfl) ?_
  unfold f_against
  by_cases hx : nI 0 ≤ i ∧ i ≤ nI 1
  · rw [cif_y hx]
    obtain ⟨v, hv, rfl⟩ := nI_of3 (by decide) hx
    rw [nI_clamp (show v < 2 ^ 31 by omega)]
    obtain ⟨kv1, kv2⟩ := a10 v (by omega)
    by_cases h0 : S.2.2.2.1 v = 0
    · rw [cif_y h0]
      refine ew_iload_n (M := mX9_against) dX9_against_0 rfl ?_
      refine ew_iconst (M := mX9_against) dX9_against_1 (v := nI 0) (by decide) ?_
      refine ew_iconst (M := mX9_against) dX9_against_2 (v := nI 1) (by decide) ?_
      refine ew_callS (M := mX9_against) dX9_against_3 vX9_66 (sp_within_y hx.1 hx.2) rfl (Nat.le_of_ble_eq_true rfl) ⟨Nat.le_refl _, Nat.le_refl _⟩ rfl (fun H3 r3 q3 => ?_)
      obtain ⟨rfl, rfl⟩ := q3
      refine ew_if_ne (M := mX9_against) (tgt := 12) dX9_against_6 rfl (fun _ => ?_) (fun h => absurd h (by decide))
      refine ew_aload_n (M := mX9_against) dX9_against_12 rfl (Or.inr (Or.inl ⟨_, rfl⟩)) ?_
      refine ew_get (M := mX9_against) dX9_against_13 fX9_27 (by repeat (first | with_reducible assumption | refine ex_eq ?_ | refine ex_ne ?_ (by omega) | exact ex_lt (by with_reducible assumption) | rw [List.length_set] | assumption)) (by rfl) ?_
      refine ew_iload_n (M := mX9_against) dX9_against_16 rfl ?_
      refine ew_zald (M := mX9_against) v dX9_against_17 (by repeat (first | with_reducible assumption | refine ex_eq ?_ | refine ex_ne ?_ (by omega) | exact ex_lt (by with_reducible assumption) | rw [List.length_set] | assumption)) ⟨rfl, by omega, by decide⟩ ?_
      rw [kv1]
      refine ew_if_ne (M := mX9_against) (tgt := 24) dX9_against_18 rfl (fun h => absurd (by rw [h0]; rfl) h) (fun _ => ?_)
      refine ew_ldc (M := mX9_against) dX9_against_21 kX9_210 ?_
      refine ew_iret (M := mX9_against) dX9_against_23 rfl (by first | rfl | decide) (Nat.le_refl _) (Nat.le_refl _) ?_
      exact ⟨rfl, ex_ch.rf, hS⟩
    · rw [cif_n h0]
      unfold f_againstV
      rcases (show v = 0 ∨ v = 1 by omega) with rfl | rfl
      · by_cases hq : S.2.2.1.1.1 = (S.2.2.2.2.1 0).1.1 ∧ S.2.2.1.1.2.1 = (S.2.2.2.2.1 0).1.2.1
        · rw [cif_y hq]
          have hpi : pi_is H 11 S.2.2.1.1.1 S.2.2.1.1.2.1 (S.2.2.2.2.1 0).1.2.2.1 (S.2.2.2.2.1 0).1.2.2.2 := by
            have := a7.2.2.2.1
            unfold pis at this
            rw [← hq.1, ← hq.2] at this
            exact this
          refine ew_iload_n (M := mX9_against) dX9_against_0 rfl ?_
          refine ew_iconst (M := mX9_against) dX9_against_1 (v := nI 0) (by decide) ?_
          refine ew_iconst (M := mX9_against) dX9_against_2 (v := nI 1) (by decide) ?_
          refine ew_callS (M := mX9_against) dX9_against_3 vX9_66 (sp_within_y hx.1 hx.2) rfl (Nat.le_of_ble_eq_true rfl) ⟨Nat.le_refl _, Nat.le_refl _⟩ rfl (fun H3 r3 q3 => ?_)
          obtain ⟨rfl, rfl⟩ := q3
          refine ew_if_ne (M := mX9_against) (tgt := 12) dX9_against_6 rfl (fun _ => ?_) (fun h => absurd h (by decide))
          refine ew_aload_n (M := mX9_against) dX9_against_12 rfl (Or.inr (Or.inl ⟨_, rfl⟩)) ?_
          refine ew_get (M := mX9_against) dX9_against_13 fX9_27 (by repeat (first | with_reducible assumption | refine ex_eq ?_ | refine ex_ne ?_ (by omega) | exact ex_lt (by with_reducible assumption) | rw [List.length_set] | assumption)) (by rfl) ?_
          refine ew_iload_n (M := mX9_against) dX9_against_16 rfl ?_
          refine ew_zald (M := mX9_against) 0 dX9_against_17 (by repeat (first | with_reducible assumption | refine ex_eq ?_ | refine ex_ne ?_ (by omega) | exact ex_lt (by with_reducible assumption) | rw [List.length_set] | assumption)) ⟨rfl, by decide, by decide⟩ ?_
          rw [kv1]
          refine ew_if_ne (M := mX9_against) (tgt := 24) dX9_against_18 rfl (fun _ => ?_) (fun h => absurd h (nI_n0 (by omega) (by omega)))
          refine ew_aload_n (M := mX9_against) dX9_against_24 rfl (Or.inr (Or.inl ⟨_, rfl⟩)) ?_
          refine ew_get (M := mX9_against) dX9_against_25 fX9_19 (by repeat (first | with_reducible assumption | refine ex_eq ?_ | refine ex_ne ?_ (by omega) | exact ex_lt (by with_reducible assumption) | rw [List.length_set] | assumption)) (by rfl) ?_
          refine ew_get (M := mX9_against) dX9_against_28 fX9_86 (by repeat (first | with_reducible assumption | refine ex_eq ?_ | refine ex_ne ?_ (by omega) | exact ex_lt (by with_reducible assumption) | rw [List.length_set] | assumption)) (by rfl) ?_
          refine ew_aload_n (M := mX9_against) dX9_against_31 rfl (Or.inr (Or.inl ⟨_, rfl⟩)) ?_
          refine ew_get (M := mX9_against) dX9_against_32 fX9_23 (by repeat (first | with_reducible assumption | refine ex_eq ?_ | refine ex_ne ?_ (by omega) | exact ex_lt (by with_reducible assumption) | rw [List.length_set] | assumption)) (by rfl) ?_
          refine ew_iload_n (M := mX9_against) dX9_against_35 rfl ?_
          refine ew_aald (t0 := 4) (M := mX9_against) 0 dX9_against_36 (by repeat (first | with_reducible assumption | refine ex_eq ?_ | refine ex_ne ?_ (by omega) | exact ex_lt (by with_reducible assumption) | rw [List.length_set] | assumption)) (fun _ => rfl) ⟨rfl, by decide, by decide⟩ ?_
          rw [a5]
          refine ew_get (M := mX9_against) dX9_against_37 fX9_86 (by repeat (first | with_reducible assumption | refine ex_eq ?_ | refine ex_ne ?_ (by omega) | exact ex_lt (by with_reducible assumption) | rw [List.length_set] | assumption)) (by rfl) ?_
          refine ew_callV (M := mX9_against) dX9_against_40 vX9_240 (by repeat (first | with_reducible assumption | refine ex_eq ?_ | refine ex_ne ?_ (by omega) | exact ex_lt (by with_reducible assumption) | rw [List.length_set] | assumption)) rfl (sp_dotsOtherThan b4 hpi) rfl (Nat.le_of_ble_eq_true rfl) ⟨Nat.le_refl _, Nat.le_refl _⟩ rfl (fun H40 r40 q40 => ?_)
          obtain ⟨rfl, rfl⟩ := q40
          refine ew_iret (M := mX9_against) dX9_against_43 rfl (by first | rfl | decide) (Nat.le_refl _) (Nat.le_refl _) ?_
          exact ⟨rfl, ex_ch.rf, hS⟩
        · rw [cif_n hq]
          refine ew_iload_n (M := mX9_against) dX9_against_0 rfl ?_
          refine ew_iconst (M := mX9_against) dX9_against_1 (v := nI 0) (by decide) ?_
          refine ew_iconst (M := mX9_against) dX9_against_2 (v := nI 1) (by decide) ?_
          refine ew_callS (M := mX9_against) dX9_against_3 vX9_66 (sp_within_y hx.1 hx.2) rfl (Nat.le_of_ble_eq_true rfl) ⟨Nat.le_refl _, Nat.le_refl _⟩ rfl (fun H3 r3 q3 => ?_)
          obtain ⟨rfl, rfl⟩ := q3
          refine ew_if_ne (M := mX9_against) (tgt := 12) dX9_against_6 rfl (fun _ => ?_) (fun h => absurd h (by decide))
          refine ew_aload_n (M := mX9_against) dX9_against_12 rfl (Or.inr (Or.inl ⟨_, rfl⟩)) ?_
          refine ew_get (M := mX9_against) dX9_against_13 fX9_27 (by repeat (first | with_reducible assumption | refine ex_eq ?_ | refine ex_ne ?_ (by omega) | exact ex_lt (by with_reducible assumption) | rw [List.length_set] | assumption)) (by rfl) ?_
          refine ew_iload_n (M := mX9_against) dX9_against_16 rfl ?_
          refine ew_zald (M := mX9_against) 0 dX9_against_17 (by repeat (first | with_reducible assumption | refine ex_eq ?_ | refine ex_ne ?_ (by omega) | exact ex_lt (by with_reducible assumption) | rw [List.length_set] | assumption)) ⟨rfl, by decide, by decide⟩ ?_
          rw [kv1]
          refine ew_if_ne (M := mX9_against) (tgt := 24) dX9_against_18 rfl (fun _ => ?_) (fun h => absurd h (nI_n0 (by omega) (by omega)))
          refine ew_aload_n (M := mX9_against) dX9_against_24 rfl (Or.inr (Or.inl ⟨_, rfl⟩)) ?_
          refine ew_get (M := mX9_against) dX9_against_25 fX9_19 (by repeat (first | with_reducible assumption | refine ex_eq ?_ | refine ex_ne ?_ (by omega) | exact ex_lt (by with_reducible assumption) | rw [List.length_set] | assumption)) (by rfl) ?_
          refine ew_get (M := mX9_against) dX9_against_28 fX9_86 (by repeat (first | with_reducible assumption | refine ex_eq ?_ | refine ex_ne ?_ (by omega) | exact ex_lt (by with_reducible assumption) | rw [List.length_set] | assumption)) (by rfl) ?_
          refine ew_aload_n (M := mX9_against) dX9_against_31 rfl (Or.inr (Or.inl ⟨_, rfl⟩)) ?_
          refine ew_get (M := mX9_against) dX9_against_32 fX9_23 (by repeat (first | with_reducible assumption | refine ex_eq ?_ | refine ex_ne ?_ (by omega) | exact ex_lt (by with_reducible assumption) | rw [List.length_set] | assumption)) (by rfl) ?_
          refine ew_iload_n (M := mX9_against) dX9_against_35 rfl ?_
          refine ew_aald (t0 := 4) (M := mX9_against) 0 dX9_against_36 (by repeat (first | with_reducible assumption | refine ex_eq ?_ | refine ex_ne ?_ (by omega) | exact ex_lt (by with_reducible assumption) | rw [List.length_set] | assumption)) (fun _ => rfl) ⟨rfl, by decide, by decide⟩ ?_
          rw [a5]
          refine ew_get (M := mX9_against) dX9_against_37 fX9_86 (by repeat (first | with_reducible assumption | refine ex_eq ?_ | refine ex_ne ?_ (by omega) | exact ex_lt (by with_reducible assumption) | rw [List.length_set] | assumption)) (by rfl) ?_
          refine ew_callV (M := mX9_against) dX9_against_40 vX9_240 (by repeat (first | with_reducible assumption | refine ex_eq ?_ | refine ex_ne ?_ (by omega) | exact ex_lt (by with_reducible assumption) | rw [List.length_set] | assumption)) rfl (sp_dotsOtherThan_n b4 a7.2.2.2.1 hq) rfl (Nat.le_of_ble_eq_true rfl) ⟨Nat.le_refl _, Nat.le_refl _⟩ rfl (fun H40 r40 q40 => ?_)
          obtain ⟨rfl, rfl⟩ := q40
          refine ew_iret (M := mX9_against) dX9_against_43 rfl (by first | rfl | decide) (Nat.le_refl _) (Nat.le_refl _) ?_
          exact ⟨rfl, ex_ch.rf, hS⟩
      · by_cases hq : S.2.2.1.1.1 = (S.2.2.2.2.1 1).1.1 ∧ S.2.2.1.1.2.1 = (S.2.2.2.2.1 1).1.2.1
        · rw [cif_y hq]
          have hpi : pi_is H 17 S.2.2.1.1.1 S.2.2.1.1.2.1 (S.2.2.2.2.1 1).1.2.2.1 (S.2.2.2.2.1 1).1.2.2.2 := by
            have := a8.2.2.2.1
            unfold pis at this
            rw [← hq.1, ← hq.2] at this
            exact this
          refine ew_iload_n (M := mX9_against) dX9_against_0 rfl ?_
          refine ew_iconst (M := mX9_against) dX9_against_1 (v := nI 0) (by decide) ?_
          refine ew_iconst (M := mX9_against) dX9_against_2 (v := nI 1) (by decide) ?_
          refine ew_callS (M := mX9_against) dX9_against_3 vX9_66 (sp_within_y hx.1 hx.2) rfl (Nat.le_of_ble_eq_true rfl) ⟨Nat.le_refl _, Nat.le_refl _⟩ rfl (fun H3 r3 q3 => ?_)
          obtain ⟨rfl, rfl⟩ := q3
          refine ew_if_ne (M := mX9_against) (tgt := 12) dX9_against_6 rfl (fun _ => ?_) (fun h => absurd h (by decide))
          refine ew_aload_n (M := mX9_against) dX9_against_12 rfl (Or.inr (Or.inl ⟨_, rfl⟩)) ?_
          refine ew_get (M := mX9_against) dX9_against_13 fX9_27 (by repeat (first | with_reducible assumption | refine ex_eq ?_ | refine ex_ne ?_ (by omega) | exact ex_lt (by with_reducible assumption) | rw [List.length_set] | assumption)) (by rfl) ?_
          refine ew_iload_n (M := mX9_against) dX9_against_16 rfl ?_
          refine ew_zald (M := mX9_against) 1 dX9_against_17 (by repeat (first | with_reducible assumption | refine ex_eq ?_ | refine ex_ne ?_ (by omega) | exact ex_lt (by with_reducible assumption) | rw [List.length_set] | assumption)) ⟨rfl, by decide, by decide⟩ ?_
          rw [kv1]
          refine ew_if_ne (M := mX9_against) (tgt := 24) dX9_against_18 rfl (fun _ => ?_) (fun h => absurd h (nI_n0 (by omega) (by omega)))
          refine ew_aload_n (M := mX9_against) dX9_against_24 rfl (Or.inr (Or.inl ⟨_, rfl⟩)) ?_
          refine ew_get (M := mX9_against) dX9_against_25 fX9_19 (by repeat (first | with_reducible assumption | refine ex_eq ?_ | refine ex_ne ?_ (by omega) | exact ex_lt (by with_reducible assumption) | rw [List.length_set] | assumption)) (by rfl) ?_
          refine ew_get (M := mX9_against) dX9_against_28 fX9_86 (by repeat (first | with_reducible assumption | refine ex_eq ?_ | refine ex_ne ?_ (by omega) | exact ex_lt (by with_reducible assumption) | rw [List.length_set] | assumption)) (by rfl) ?_
          refine ew_aload_n (M := mX9_against) dX9_against_31 rfl (Or.inr (Or.inl ⟨_, rfl⟩)) ?_
          refine ew_get (M := mX9_against) dX9_against_32 fX9_23 (by repeat (first | with_reducible assumption | refine ex_eq ?_ | refine ex_ne ?_ (by omega) | exact ex_lt (by with_reducible assumption) | rw [List.length_set] | assumption)) (by rfl) ?_
          refine ew_iload_n (M := mX9_against) dX9_against_35 rfl ?_
          refine ew_aald (t0 := 4) (M := mX9_against) 1 dX9_against_36 (by repeat (first | with_reducible assumption | refine ex_eq ?_ | refine ex_ne ?_ (by omega) | exact ex_lt (by with_reducible assumption) | rw [List.length_set] | assumption)) (fun _ => rfl) ⟨rfl, by decide, by decide⟩ ?_
          rw [a6]
          refine ew_get (M := mX9_against) dX9_against_37 fX9_86 (by repeat (first | with_reducible assumption | refine ex_eq ?_ | refine ex_ne ?_ (by omega) | exact ex_lt (by with_reducible assumption) | rw [List.length_set] | assumption)) (by rfl) ?_
          refine ew_callV (M := mX9_against) dX9_against_40 vX9_240 (by repeat (first | with_reducible assumption | refine ex_eq ?_ | refine ex_ne ?_ (by omega) | exact ex_lt (by with_reducible assumption) | rw [List.length_set] | assumption)) rfl (sp_dotsOtherThan b4 hpi) rfl (Nat.le_of_ble_eq_true rfl) ⟨Nat.le_refl _, Nat.le_refl _⟩ rfl (fun H40 r40 q40 => ?_)
          obtain ⟨rfl, rfl⟩ := q40
          refine ew_iret (M := mX9_against) dX9_against_43 rfl (by first | rfl | decide) (Nat.le_refl _) (Nat.le_refl _) ?_
          exact ⟨rfl, ex_ch.rf, hS⟩
        · rw [cif_n hq]
          refine ew_iload_n (M := mX9_against) dX9_against_0 rfl ?_
          refine ew_iconst (M := mX9_against) dX9_against_1 (v := nI 0) (by decide) ?_
          refine ew_iconst (M := mX9_against) dX9_against_2 (v := nI 1) (by decide) ?_
          refine ew_callS (M := mX9_against) dX9_against_3 vX9_66 (sp_within_y hx.1 hx.2) rfl (Nat.le_of_ble_eq_true rfl) ⟨Nat.le_refl _, Nat.le_refl _⟩ rfl (fun H3 r3 q3 => ?_)
          obtain ⟨rfl, rfl⟩ := q3
          refine ew_if_ne (M := mX9_against) (tgt := 12) dX9_against_6 rfl (fun _ => ?_) (fun h => absurd h (by decide))
          refine ew_aload_n (M := mX9_against) dX9_against_12 rfl (Or.inr (Or.inl ⟨_, rfl⟩)) ?_
          refine ew_get (M := mX9_against) dX9_against_13 fX9_27 (by repeat (first | with_reducible assumption | refine ex_eq ?_ | refine ex_ne ?_ (by omega) | exact ex_lt (by with_reducible assumption) | rw [List.length_set] | assumption)) (by rfl) ?_
          refine ew_iload_n (M := mX9_against) dX9_against_16 rfl ?_
          refine ew_zald (M := mX9_against) 1 dX9_against_17 (by repeat (first | with_reducible assumption | refine ex_eq ?_ | refine ex_ne ?_ (by omega) | exact ex_lt (by with_reducible assumption) | rw [List.length_set] | assumption)) ⟨rfl, by decide, by decide⟩ ?_
          rw [kv1]
          refine ew_if_ne (M := mX9_against) (tgt := 24) dX9_against_18 rfl (fun _ => ?_) (fun h => absurd h (nI_n0 (by omega) (by omega)))
          refine ew_aload_n (M := mX9_against) dX9_against_24 rfl (Or.inr (Or.inl ⟨_, rfl⟩)) ?_
          refine ew_get (M := mX9_against) dX9_against_25 fX9_19 (by repeat (first | with_reducible assumption | refine ex_eq ?_ | refine ex_ne ?_ (by omega) | exact ex_lt (by with_reducible assumption) | rw [List.length_set] | assumption)) (by rfl) ?_
          refine ew_get (M := mX9_against) dX9_against_28 fX9_86 (by repeat (first | with_reducible assumption | refine ex_eq ?_ | refine ex_ne ?_ (by omega) | exact ex_lt (by with_reducible assumption) | rw [List.length_set] | assumption)) (by rfl) ?_
          refine ew_aload_n (M := mX9_against) dX9_against_31 rfl (Or.inr (Or.inl ⟨_, rfl⟩)) ?_
          refine ew_get (M := mX9_against) dX9_against_32 fX9_23 (by repeat (first | with_reducible assumption | refine ex_eq ?_ | refine ex_ne ?_ (by omega) | exact ex_lt (by with_reducible assumption) | rw [List.length_set] | assumption)) (by rfl) ?_
          refine ew_iload_n (M := mX9_against) dX9_against_35 rfl ?_
          refine ew_aald (t0 := 4) (M := mX9_against) 1 dX9_against_36 (by repeat (first | with_reducible assumption | refine ex_eq ?_ | refine ex_ne ?_ (by omega) | exact ex_lt (by with_reducible assumption) | rw [List.length_set] | assumption)) (fun _ => rfl) ⟨rfl, by decide, by decide⟩ ?_
          rw [a6]
          refine ew_get (M := mX9_against) dX9_against_37 fX9_86 (by repeat (first | with_reducible assumption | refine ex_eq ?_ | refine ex_ne ?_ (by omega) | exact ex_lt (by with_reducible assumption) | rw [List.length_set] | assumption)) (by rfl) ?_
          refine ew_callV (M := mX9_against) dX9_against_40 vX9_240 (by repeat (first | with_reducible assumption | refine ex_eq ?_ | refine ex_ne ?_ (by omega) | exact ex_lt (by with_reducible assumption) | rw [List.length_set] | assumption)) rfl (sp_dotsOtherThan_n b4 a8.2.2.2.1 hq) rfl (Nat.le_of_ble_eq_true rfl) ⟨Nat.le_refl _, Nat.le_refl _⟩ rfl (fun H40 r40 q40 => ?_)
          obtain ⟨rfl, rfl⟩ := q40
          refine ew_iret (M := mX9_against) dX9_against_43 rfl (by first | rfl | decide) (Nat.le_refl _) (Nat.le_refl _) ?_
          exact ⟨rfl, ex_ch.rf, hS⟩
  · rw [cif_n hx]
    refine ew_iload_n (M := mX9_against) dX9_against_0 rfl ?_
    refine ew_iconst (M := mX9_against) dX9_against_1 (v := nI 0) (by decide) ?_
    refine ew_iconst (M := mX9_against) dX9_against_2 (v := nI 1) (by decide) ?_
    refine ew_callS (M := mX9_against) dX9_against_3 vX9_66 (sp_within_n hx) rfl (Nat.le_of_ble_eq_true rfl) ⟨Nat.le_refl _, Nat.le_refl _⟩ rfl (fun H3 r3 q3 => ?_)
    obtain ⟨rfl, rfl⟩ := q3
    refine ew_if_ne (M := mX9_against) (tgt := 12) dX9_against_6 rfl (fun h => absurd rfl h) (fun _ => ?_)
    refine ew_ldc (M := mX9_against) dX9_against_9 kX9_141 ?_
    refine ew_iret (M := mX9_against) dX9_against_11 rfl (by first | rfl | decide) (Nat.le_refl _) (Nat.le_refl _) ?_
    exact ⟨rfl, ex_ch.rf, hS⟩
