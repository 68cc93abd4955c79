theorem ls_pos {P : PT} {v : FV} {fi x y : Nat} (hok : pi_ok P.1 P.2.1 P.2.2.1 P.2.2.2) (hx : x < P.1) (hy : y < P.2.1) (hm : P.2.2.2 (y * P.1 + x) = 0) (hr : v.2.2.1 ≤ 100) : lsI P v fi x y = nI (lsV P v fi x y) ∧ lsV P v fi x y < 256 := by
  have h1 : 1 ≤ lsN P v fi x y := cnts_pos hx hy (hok.2 _ (pi_lt hx hy)).1 hm
  exact ⟨by unfold lsI; rw [if_neg (by omega)], lsV_lt hr h1⟩
theorem ms_bins {d : Nat} {H : ex_H} {S : SS} (hS : mo_is H S) (f : Int32) : ex_Met mX10_bins (d + 6) 0 0 H [.ref 86, .int f] (fun H' r => r = some (.int (f_bins S f).1) ∧ ex_ch H H' mL ∧ mo_is H' (f_bins S f).2) := by
  obtain ⟨R, mn, C, N, hS⟩ := hS
  obtain ⟨a1, ⟨hfi, hsd, hkp⟩, ⟨W, a2, hw0, ⟨hcn, hwh⟩, hwi⟩, ⟨T, a3, htn, htx⟩, ⟨F, a4, hfl⟩, ⟨IF, IL, IS, a5, a6, a7, him⟩, ⟨BX, BY, BG, a8, a9, a10, hbn, hbk⟩, a11, a12⟩ := id hS
  obtain ⟨⟨⟨hz1, hz2, hz3, hz4⟩, hgm⟩, hW0, hW1, hWd⟩ := id hw0
  have h6 : S.2.2.1.2.1.1 ≤ 6 := hfl.1
  by_cases hx : fin S.2.2.1.2.1.1 f
  · obtain ⟨f, hf, rfl⟩ := id hx
    obtain ⟨-, -, f3, -⟩ := (hfl.2.2 f hf).2
    have ef : f_bins S (nI f) = (nI (fl (fun j n => fl (fun i n => if S.2.2.1.1.2.2.2 (j * S.2.2.1.1.1 + i) = 0 then n + (lsV S.2.2.1.1 (S.2.2.1.2.1.2 f) S.2.2.1.2.2.1 i j / 16 + lsV S.2.2.1.1 (S.2.2.1.2.1.2 f) S.2.2.1.2.2.1 i j % 16 + 2) else n) S.2.2.1.1.1 n) S.2.2.1.1.2.1 0), S) := by
      unfold f_bins
      rw [cif_y hx, nI_clamp (by omega)]
      rfl
    rw [ef]
    refine ex_meth [(0, .ref 86), (1, .int (nI f))] rfl rfl rfl (fun b => Nat.le_of_ble_eq_true rfl) ?_
    refine ew_aload_n (M := mX10_bins) dX10_bins_0 rfl (Or.inr (Or.inl ⟨_, rfl⟩)) ?_
    refine ew_iload_n (M := mX10_bins) dX10_bins_1 rfl ?_
    refine ew_callV (M := mX10_bins) dX10_bins_2 vX10_186 (by repeat (first | with_reducible assumption | refine ex_eq ?_ | refine ex_ne ?_ (by omega) | exact ex_lt (by with_reducible assumption) | rw [List.length_set] | assumption)) rfl (ms_isFilter_y hS hf) rfl (Nat.le_of_ble_eq_true rfl) ⟨Nat.le_refl _, Nat.le_refl _⟩ rfl (fun H2 r2 q2 => ?_)
    obtain ⟨rfl, rfl⟩ := q2
    refine ew_if_ne (M := mX10_bins) (tgt := 11) dX10_bins_5 rfl (fun _ => ?_) (fun h => absurd h (by decide))
    refine ew_iconst (M := mX10_bins) dX10_bins_11 (v := nI 0) (by decide) ?_
    refine ew_istore_n (M := mX10_bins) dX10_bins_12 (by decide) rfl ?_
    refine ew_iconst (M := mX10_bins) dX10_bins_13 (v := nI 0) (by decide) ?_
    refine ew_istore_n (M := mX10_bins) dX10_bins_14 (by decide) rfl ?_
    refine ew_ls [(0, .ref 86), (1, .int (nI f)), (2, .int (nI 0)), (3, .int (nI 0))] ⟨rfl, rfl, rfl, rfl, trivial⟩ ?_
    refine fl_down (F := fun j n => fl (fun i n => if S.2.2.1.1.2.2.2 (j * S.2.2.1.1.1 + i) = 0 then n + (lsV S.2.2.1.1 (S.2.2.1.2.1.2 f) S.2.2.1.2.2.1 i j / 16 + lsV S.2.2.1.1 (S.2.2.1.2.1.2 f) S.2.2.1.2.2.1 i j % 16 + 2) else n) S.2.2.1.1.1 n) (P := fun j s => ∀ (H2 : ex_H) (m2 : Int32) (C2 : Nat → Int32), ex_ch H H2 [86, 96] → mo_at H2 S R m2 C2 N → ex_W mX10_bins (d + 6) 0 0 _ H2 15 [(0, .ref 86), (1, .int (nI f)), (2, .int (nI s)), (3, .int (nI j))] [] 0 0) S.2.2.1.1.2.1 0 (fun j s hj _ ko => ?_) ?_ H mn C ex_ch.rf hS
    · intro H2 m2 C2 hc2 hS2
      obtain ⟨b1, -, ⟨W2, b2, bw0, -⟩, -⟩ := id hS2
      obtain ⟨-, w0, w1, -⟩ := id bw0
      have w1 : W2 1 = nI S.2.2.1.1.2.1 := w1
      refine ew_iload_n (M := mX10_bins) dX10_bins_15 rfl ?_
      refine ew_aload_n (M := mX10_bins) dX10_bins_16 rfl (Or.inr (Or.inl ⟨_, rfl⟩)) ?_
      refine ew_get (M := mX10_bins) dX10_bins_17 fX10_7 (by repeat (first | with_reducible assumption | refine ex_eq ?_ | refine ex_ne ?_ (by omega) | exact ex_lt (by with_reducible assumption) | rw [List.length_set] | assumption)) (by rfl) ?_
      refine ew_iconst (M := mX10_bins) dX10_bins_20 (v := nI 1) (by decide) ?_
      refine ew_iald (M := mX10_bins) 1 dX10_bins_21 (by repeat (first | with_reducible assumption | refine ex_eq ?_ | refine ex_ne ?_ (by omega) | exact ex_lt (by with_reducible assumption) | rw [List.length_set] | assumption)) ⟨rfl, by decide, by decide⟩ ?_
      rw [w1]
      refine ew_icmp_ge (M := mX10_bins) (tgt := 100) dX10_bins_22 rfl (fun h => absurd h (nI_ge hj (by omega))) (fun _ => ?_)
      refine ew_iconst (M := mX10_bins) dX10_bins_25 (v := nI 0) (by decide) ?_
      refine ew_istore (M := mX10_bins) dX10_bins_26 (by decide) rfl ?_
      refine ew_ls [(0, .ref 86), (1, .int (nI f)), (2, .int (nI s)), (3, .int (nI j)), (4, .int (nI 0))] ⟨rfl, rfl, rfl, rfl, rfl, trivial⟩ ?_
      refine fl_down (F := (fun i n => if S.2.2.1.1.2.2.2 (j * S.2.2.1.1.1 + i) = 0 then n + (lsV S.2.2.1.1 (S.2.2.1.2.1.2 f) S.2.2.1.2.2.1 i j / 16 + lsV S.2.2.1.1 (S.2.2.1.2.1.2 f) S.2.2.1.2.2.1 i j % 16 + 2) else n)) (P := fun i s => ∀ (H2 : ex_H) (m2 : Int32) (C2 : Nat → Int32), ex_ch H H2 [86, 96] → mo_at H2 S R m2 C2 N → ex_W mX10_bins (d + 6) 0 0 _ H2 28 [(0, .ref 86), (1, .int (nI f)), (2, .int (nI s)), (3, .int (nI j)), (4, .int (nI i))] [] 0 0) S.2.2.1.1.1 s (fun i s hi _ ki => ?_) ?_ H2 m2 C2 hc2 hS2
      · intro H3 m3 C3 hc3 hS3
        obtain ⟨d1, -, ⟨W3, d2, dw0, -⟩, -⟩ := id hS3
        obtain ⟨-, x0, x1, -⟩ := id dw0
        have x1 : W3 1 = nI S.2.2.1.1.2.1 := x1
        have hm2 := hgm _ (pi_lt hi hj)
        by_cases hm : S.2.2.1.1.2.2.2 (j * S.2.2.1.1.1 + i) = 0
        · simp only [hm, ↓reduceIte] at ki
          have hL := ls_pos (v := (S.2.2.1.2.1.2 f)) (fi := S.2.2.1.2.2.1) ⟨⟨hz1, hz2, hz3, hz4⟩, hgm⟩ hi hj hm f3
          refine ew_iload (M := mX10_bins) dX10_bins_28 rfl ?_
          refine ew_aload_n (M := mX10_bins) dX10_bins_30 rfl (Or.inr (Or.inl ⟨_, rfl⟩)) ?_
          refine ew_get (M := mX10_bins) dX10_bins_31 fX10_7 (by repeat (first | with_reducible assumption | refine ex_eq ?_ | refine ex_ne ?_ (by omega) | exact ex_lt (by with_reducible assumption) | rw [List.length_set] | assumption)) (by rfl) ?_
          refine ew_iconst (M := mX10_bins) dX10_bins_34 (v := nI 0) (by decide) ?_
          refine ew_iald (M := mX10_bins) 0 dX10_bins_35 (by repeat (first | with_reducible assumption | refine ex_eq ?_ | refine ex_ne ?_ (by omega) | exact ex_lt (by with_reducible assumption) | rw [List.length_set] | assumption)) ⟨rfl, by decide, by decide⟩ ?_
          rw [x0]
          refine ew_icmp_ge (M := mX10_bins) (tgt := 94) dX10_bins_36 rfl (fun h => absurd h (nI_ge hi (by omega))) (fun _ => ?_)
          refine ew_aload_n (M := mX10_bins) dX10_bins_39 rfl (Or.inr (Or.inl ⟨_, rfl⟩)) ?_
          refine ew_iload (M := mX10_bins) dX10_bins_40 rfl ?_
          refine ew_iload_n (M := mX10_bins) dX10_bins_42 rfl ?_
          refine ew_callV (M := mX10_bins) dX10_bins_43 vX10_62 (by repeat (first | with_reducible assumption | refine ex_eq ?_ | refine ex_ne ?_ (by omega) | exact ex_lt (by with_reducible assumption) | rw [List.length_set] | assumption)) rfl (ms_isMasked hS3 hi hj) rfl (Nat.le_of_ble_eq_true rfl) ⟨Nat.le_refl _, Nat.le_refl _⟩ rfl (fun H43 r43 q43 => ?_)
          obtain ⟨rfl, rfl⟩ := q43
          rw [hm]
          refine ew_if_eq (M := mX10_bins) (tgt := 53) dX10_bins_46 rfl (fun _ => ?_) (fun h => absurd rfl h)
          refine ew_aload_n (M := mX10_bins) dX10_bins_53 rfl (Or.inr (Or.inl ⟨_, rfl⟩)) ?_
          refine ew_iload_n (M := mX10_bins) dX10_bins_54 rfl ?_
          refine ew_iload (M := mX10_bins) dX10_bins_55 rfl ?_
          refine ew_iload_n (M := mX10_bins) dX10_bins_57 rfl ?_
          refine ew_callV (M := mX10_bins) dX10_bins_58 vX10_157 (by repeat (first | with_reducible assumption | refine ex_eq ?_ | refine ex_ne ?_ (by omega) | exact ex_lt (by with_reducible assumption) | rw [List.length_set] | assumption)) rfl (ms_lastOf hS3 hf hi hj) rfl (Nat.le_of_ble_eq_true rfl) ⟨Nat.le_refl _, Nat.le_refl _⟩ rfl (fun H58 r58 q58 => ?_)
          obtain ⟨rfl, hc4, n4, C4, hS4, -⟩ := q58
          rw [hL.1]
          refine ew_istore (M := mX10_bins) dX10_bins_61 (by decide) rfl ?_
          refine ew_iload_n (M := mX10_bins) dX10_bins_63 rfl ?_
          refine ew_iload (M := mX10_bins) dX10_bins_64 rfl ?_
          refine ew_if_ge (M := mX10_bins) (tgt := 73) dX10_bins_66 rfl (fun _ => ?_) (fun h => absurd (nI_pos' (by omega)) h)
          refine ew_iload (M := mX10_bins) dX10_bins_73 rfl ?_
          refine ew_bipush (M := mX10_bins) dX10_bins_75 (v := nI 16) (by decide) ?_
          refine ew_idiv (M := mX10_bins) dX10_bins_77 (by decide) ?_
          rw [pk_div (by omega) (by decide) (by decide)]
          refine ew_iload (M := mX10_bins) dX10_bins_78 rfl ?_
          refine ew_bipush (M := mX10_bins) dX10_bins_80 (v := nI 16) (by decide) ?_
          refine ew_irem (M := mX10_bins) dX10_bins_82 (by decide) ?_
          rw [pk_rem (by omega) (by decide) (by decide)]
          refine ew_iadd (M := mX10_bins) dX10_bins_83 ?_
          rw [nI_add]
          refine ew_iconst (M := mX10_bins) dX10_bins_84 (v := nI 2) (by decide) ?_
          refine ew_iadd (M := mX10_bins) dX10_bins_85 ?_
          rw [nI_add]
          refine ew_iadd (M := mX10_bins) dX10_bins_86 ?_
          rw [nI_add]
          refine ew_istore_n (M := mX10_bins) dX10_bins_87 (by decide) rfl ?_
          refine ew_iinc (M := mX10_bins) dX10_bins_88 rfl (ex_inc i) (by decide) rfl ?_
          refine ew_goto (M := mX10_bins) (tgt := 28) dX10_bins_91 rfl ?_
          refine ew_ls _ ?_ (ki _ _ _ (hc3.tr hc4 (by simp)) hS4)
          exact ⟨rfl, rfl, rfl, rfl, rfl, trivial⟩
        · simp only [hm, ↓reduceIte] at ki
          refine ew_iload (M := mX10_bins) dX10_bins_28 rfl ?_
          refine ew_aload_n (M := mX10_bins) dX10_bins_30 rfl (Or.inr (Or.inl ⟨_, rfl⟩)) ?_
          refine ew_get (M := mX10_bins) dX10_bins_31 fX10_7 (by repeat (first | with_reducible assumption | refine ex_eq ?_ | refine ex_ne ?_ (by omega) | exact ex_lt (by with_reducible assumption) | rw [List.length_set] | assumption)) (by rfl) ?_
          refine ew_iconst (M := mX10_bins) dX10_bins_34 (v := nI 0) (by decide) ?_
          refine ew_iald (M := mX10_bins) 0 dX10_bins_35 (by repeat (first | with_reducible assumption | refine ex_eq ?_ | refine ex_ne ?_ (by omega) | exact ex_lt (by with_reducible assumption) | rw [List.length_set] | assumption)) ⟨rfl, by decide, by decide⟩ ?_
          rw [x0]
          refine ew_icmp_ge (M := mX10_bins) (tgt := 94) dX10_bins_36 rfl (fun h => absurd h (nI_ge hi (by omega))) (fun _ => ?_)
          refine ew_aload_n (M := mX10_bins) dX10_bins_39 rfl (Or.inr (Or.inl ⟨_, rfl⟩)) ?_
          refine ew_iload (M := mX10_bins) dX10_bins_40 rfl ?_
          refine ew_iload_n (M := mX10_bins) dX10_bins_42 rfl ?_
          refine ew_callV (M := mX10_bins) dX10_bins_43 vX10_62 (by repeat (first | with_reducible assumption | refine ex_eq ?_ | refine ex_ne ?_ (by omega) | exact ex_lt (by with_reducible assumption) | rw [List.length_set] | assumption)) rfl (ms_isMasked hS3 hi hj) rfl (Nat.le_of_ble_eq_true rfl) ⟨Nat.le_refl _, Nat.le_refl _⟩ rfl (fun H43 r43 q43 => ?_)
          obtain ⟨rfl, rfl⟩ := q43
          refine ew_if_eq (M := mX10_bins) (tgt := 53) dX10_bins_46 rfl (fun h => absurd h (nI_n0 (by omega) (by omega))) (fun _ => ?_)
          refine ew_iconst (M := mX10_bins) dX10_bins_49 (v := (-1)) (by decide) ?_
          refine ew_goto (M := mX10_bins) (tgt := 61) dX10_bins_50 rfl ?_
          refine ew_istore (M := mX10_bins) dX10_bins_61 (by decide) rfl ?_
          refine ew_iload_n (M := mX10_bins) dX10_bins_63 rfl ?_
          refine ew_iload (M := mX10_bins) dX10_bins_64 rfl ?_
          refine ew_if_ge (M := mX10_bins) (tgt := 73) dX10_bins_66 rfl (fun h => absurd h (by decide)) (fun _ => ?_)
          refine ew_iconst (M := mX10_bins) dX10_bins_69 (v := nI 0) (by decide) ?_
          refine ew_goto (M := mX10_bins) (tgt := 86) dX10_bins_70 rfl ?_
          refine ew_iadd (M := mX10_bins) dX10_bins_86 ?_
          rw [nI_add]
          refine ew_istore_n (M := mX10_bins) dX10_bins_87 (by decide) rfl ?_
          refine ew_iinc (M := mX10_bins) dX10_bins_88 rfl (ex_inc i) (by decide) rfl ?_
          refine ew_goto (M := mX10_bins) (tgt := 28) dX10_bins_91 rfl ?_
          refine ew_ls _ ?_ (ki _ _ _ hc3 hS3)
          exact ⟨rfl, rfl, rfl, rfl, rfl, trivial⟩
      · intro H3 m3 C3 hc3 hS3
        obtain ⟨d1, -, ⟨W3, d2, dw0, -⟩, -⟩ := id hS3
        obtain ⟨-, x0, x1, -⟩ := id dw0
        have x1 : W3 1 = nI S.2.2.1.1.2.1 := x1
        refine ew_iload (M := mX10_bins) dX10_bins_28 rfl ?_
        refine ew_aload_n (M := mX10_bins) dX10_bins_30 rfl (Or.inr (Or.inl ⟨_, rfl⟩)) ?_
        refine ew_get (M := mX10_bins) dX10_bins_31 fX10_7 (by repeat (first | with_reducible assumption | refine ex_eq ?_ | refine ex_ne ?_ (by omega) | exact ex_lt (by with_reducible assumption) | rw [List.length_set] | assumption)) (by rfl) ?_
        refine ew_iconst (M := mX10_bins) dX10_bins_34 (v := nI 0) (by decide) ?_
        refine ew_iald (M := mX10_bins) 0 dX10_bins_35 (by repeat (first | with_reducible assumption | refine ex_eq ?_ | refine ex_ne ?_ (by omega) | exact ex_lt (by with_reducible assumption) | rw [List.length_set] | assumption)) ⟨rfl, by decide, by decide⟩ ?_
        rw [x0]
        refine ew_icmp_ge (M := mX10_bins) (tgt := 94) dX10_bins_36 rfl (fun _ => ?_) (fun h => absurd (nI_le (Nat.le_refl _) (by omega)) h)
        refine ew_iinc (M := mX10_bins) dX10_bins_94 rfl (ex_inc j) (by decide) rfl ?_
        refine ew_goto (M := mX10_bins) (tgt := 15) dX10_bins_97 rfl ?_
        refine ew_ls _ ?_ (ko _ _ _ hc3 hS3)
        exact ⟨rfl, rfl, rfl, rfl, trivial⟩
    · intro H2 m2 C2 hc2 hS2
      obtain ⟨b1, -, ⟨W2, b2, bw0, -⟩, -⟩ := id hS2
      obtain ⟨-, w0, w1, -⟩ := id bw0
      have w1 : W2 1 = nI S.2.2.1.1.2.1 := w1
      refine ew_iload_n (M := mX10_bins) dX10_bins_15 rfl ?_
      refine ew_aload_n (M := mX10_bins) dX10_bins_16 rfl (Or.inr (Or.inl ⟨_, rfl⟩)) ?_
      refine ew_get (M := mX10_bins) dX10_bins_17 fX10_7 (by repeat (first | with_reducible assumption | refine ex_eq ?_ | refine ex_ne ?_ (by omega) | exact ex_lt (by with_reducible assumption) | rw [List.length_set] | assumption)) (by rfl) ?_
      refine ew_iconst (M := mX10_bins) dX10_bins_20 (v := nI 1) (by decide) ?_
      refine ew_iald (M := mX10_bins) 1 dX10_bins_21 (by repeat (first | with_reducible assumption | refine ex_eq ?_ | refine ex_ne ?_ (by omega) | exact ex_lt (by with_reducible assumption) | rw [List.length_set] | assumption)) ⟨rfl, by decide, by decide⟩ ?_
      rw [w1]
      refine ew_icmp_ge (M := mX10_bins) (tgt := 100) dX10_bins_22 rfl (fun _ => ?_) (fun h => absurd (nI_le (Nat.le_refl _) (by omega)) h)
      refine ew_iload_n (M := mX10_bins) dX10_bins_100 rfl ?_
      refine ew_iret (M := mX10_bins) dX10_bins_101 rfl (by first | rfl | decide) (Nat.le_refl _) (Nat.le_refl _) ?_
      exact ⟨rfl, hc2.sub (mL_sub (by decide)), _, _, _, _, hS2⟩
  · have ef : f_bins S f = (-1000000001, S) := by
      unfold f_bins
      rw [cif_n hx]
    refine ex_meth [(0, .ref 86), (1, .int f)] rfl rfl rfl (fun b => Nat.le_of_ble_eq_true rfl) ?_
    refine ew_aload_n (M := mX10_bins) dX10_bins_0 rfl (Or.inr (Or.inl ⟨_, rfl⟩)) ?_
    refine ew_iload_n (M := mX10_bins) dX10_bins_1 rfl ?_
    refine ew_callV (M := mX10_bins) dX10_bins_2 vX10_186 (by repeat (first | with_reducible assumption | refine ex_eq ?_ | refine ex_ne ?_ (by omega) | exact ex_lt (by with_reducible assumption) | rw [List.length_set] | assumption)) rfl (ms_isFilter_n hS hx) rfl (Nat.le_of_ble_eq_true rfl) ⟨Nat.le_refl _, Nat.le_refl _⟩ rfl (fun H2 r2 q2 => ?_)
    obtain ⟨rfl, rfl⟩ := q2
    refine ew_if_ne (M := mX10_bins) (tgt := 11) dX10_bins_5 rfl (fun h => absurd (by decide) h) (fun _ => ?_)
    refine ew_ldc (M := mX10_bins) dX10_bins_8 kX10_175 ?_
    refine ew_iret (M := mX10_bins) dX10_bins_10 rfl (by first | rfl | decide) (Nat.le_refl _) (Nat.le_refl _) ?_
    exact ⟨by rw [ef], ex_ch.rf, by rw [ef]; exact ⟨_, _, _, _, hS⟩⟩
theorem off_le {g l t : Nat} (hg : g < 256) (hl : l < 256) (ht : t < 2 ^ 31) : (nI t < nI g - nI l ∨ nI t < -(nI g - nI l)) ↔ ¬ absI (nI g - nI l) ≤ nI t := by
  have hneg : ∀ k, k < 256 → 0 < k → ¬ (0 : Int32) ≤ -nI k := by decide +kernel
  have hn0 : ∀ k, k < 256 → ¬ nI t < -nI k := fun k hk => by
    have h1 : -nI k ≤ 0 := by
      have : ∀ k, k < 256 → -nI k ≤ (0 : Int32) := by decide +kernel
      exact this k hk
    exact Int32.not_lt.mpr (Int32.le_trans h1 (nI_pos' ht))
  by_cases h : l ≤ g
  · rw [nI_sb h]
    have e : absI (nI (g - l)) = nI (g - l) := if_pos (nI_pos' (by omega))
    rw [e, Int32.not_le]
    exact ⟨fun q => q.elim id (fun q => absurd q (hn0 _ (by omega))), Or.inl⟩
  · have e0 : nI g - nI l = -nI (l - g) := by rw [← nI_sb (show g ≤ l by omega), Int32.neg_sub]
    rw [e0, Int32.neg_neg]
    have e : absI (-nI (l - g)) = nI (l - g) := by
      unfold absI
      rw [if_neg (hneg _ (by omega) (by omega)), Int32.neg_neg]
    rw [e, Int32.not_le]
    exact ⟨fun q => q.elim (fun q => absurd q (hn0 _ (by omega))) id, Or.inr⟩
theorem ms_spikes {d : Nat} {H : ex_H} {S : SS} (hS : mo_is H S) (f t : Int32) : ex_Met mX10_spikes (d + 6) 0 0 H [.ref 86, .int f, .int t] (fun H' r => r = some (.int (f_spikes S f t).1) ∧ ex_ch H H' mL ∧ mo_is H' (f_spikes S f t).2) := by
  obtain ⟨R, mn, C, N, hS⟩ := hS
  obtain ⟨a1, ⟨hfi, hsd, hkp⟩, ⟨W, a2, hw0, ⟨hcn, hwh⟩, hwi⟩, ⟨T, a3, htn, htx⟩, ⟨F, a4, hfl⟩, ⟨IF, IL, IS, a5, a6, a7, him⟩, ⟨BX, BY, BG, a8, a9, a10, hbn, hbk⟩, a11, a12⟩ := id hS
  obtain ⟨⟨⟨hz1, hz2, hz3, hz4⟩, hgm⟩, hW0, hW1, hWd⟩ := id hw0
  have h6 : S.2.2.1.2.1.1 ≤ 6 := hfl.1
  by_cases hx : fin S.2.2.1.2.1.1 f
  · obtain ⟨f, hf, rfl⟩ := id hx
    obtain ⟨-, -, f3, -⟩ := (hfl.2.2 f hf).2
    by_cases hy : nI 0 ≤ t ∧ t ≤ nI 255
    · obtain ⟨t, ht, rfl⟩ := nI_of3 (by decide) hy
      have ef : f_spikes S (nI f) (nI t) = (nI (fl (fun j n => fl (fun i n => if S.2.2.1.1.2.2.2 (j * S.2.2.1.1.1 + i) = 0 then (if absI (nI (S.2.2.1.1.2.2.1 (j * S.2.2.1.1.1 + i)) - nI (lsV S.2.2.1.1 (S.2.2.1.2.1.2 f) S.2.2.1.2.2.1 i j)) ≤ nI t then n else n + 1) else n) S.2.2.1.1.1 n) S.2.2.1.1.2.1 0), S) := by
        unfold f_spikes
        rw [cif_y hx, cif_y hy, nI_clamp (by omega)]
        rfl
      rw [ef]
      refine ex_meth [(0, .ref 86), (1, .int (nI f)), (2, .int (nI t))] rfl rfl rfl (fun b => Nat.le_of_ble_eq_true rfl) ?_
      refine ew_aload_n (M := mX10_spikes) dX10_spikes_0 rfl (Or.inr (Or.inl ⟨_, rfl⟩)) ?_
      refine ew_iload_n (M := mX10_spikes) dX10_spikes_1 rfl ?_
      refine ew_callV (M := mX10_spikes) dX10_spikes_2 vX10_186 (by repeat (first | with_reducible assumption | refine ex_eq ?_ | refine ex_ne ?_ (by omega) | exact ex_lt (by with_reducible assumption) | rw [List.length_set] | assumption)) rfl (ms_isFilter_y hS hf) rfl (Nat.le_of_ble_eq_true rfl) ⟨Nat.le_refl _, Nat.le_refl _⟩ rfl (fun H2 r2 q2 => ?_)
      obtain ⟨rfl, rfl⟩ := q2
      refine ew_if_ne (M := mX10_spikes) (tgt := 11) dX10_spikes_5 rfl (fun _ => ?_) (fun h => absurd h (by decide))
      refine ew_iload_n (M := mX10_spikes) dX10_spikes_11 rfl ?_
      refine ew_i2l (M := mX10_spikes) dX10_spikes_12 ?_
      refine ew_lconst (M := mX10_spikes) dX10_spikes_13 (v := 0) (by decide) ?_
      refine ew_ldc2 (M := mX10_spikes) dX10_spikes_14 kX10_108 ?_
      refine ew_callS (M := mX10_spikes) dX10_spikes_17 vX10_58 (ms_in_y (l := nI 0) (g := nI 255) (by decide) (by decide) hy.1 hy.2) rfl (Nat.le_of_ble_eq_true rfl) ⟨Nat.le_refl _, Nat.le_refl _⟩ rfl (fun H17 r17 q17 => ?_)
      obtain ⟨rfl, rfl⟩ := q17
      refine ew_if_ne (M := mX10_spikes) (tgt := 26) dX10_spikes_20 rfl (fun _ => ?_) (fun h => absurd h (by decide))
      refine ew_iconst (M := mX10_spikes) dX10_spikes_26 (v := nI 0) (by decide) ?_
      refine ew_istore_n (M := mX10_spikes) dX10_spikes_27 (by decide) rfl ?_
      refine ew_iconst (M := mX10_spikes) dX10_spikes_28 (v := nI 0) (by decide) ?_
      refine ew_istore (M := mX10_spikes) dX10_spikes_29 (by decide) rfl ?_
      refine ew_ls [(0, .ref 86), (1, .int (nI f)), (2, .int (nI t)), (3, .int (nI 0)), (4, .int (nI 0))] ⟨rfl, rfl, rfl, rfl, rfl, trivial⟩ ?_
      refine fl_down (F := fun j n => fl (fun i n => if S.2.2.1.1.2.2.2 (j * S.2.2.1.1.1 + i) = 0 then (if absI (nI (S.2.2.1.1.2.2.1 (j * S.2.2.1.1.1 + i)) - nI (lsV S.2.2.1.1 (S.2.2.1.2.1.2 f) S.2.2.1.2.2.1 i j)) ≤ nI t then n else n + 1) else n) S.2.2.1.1.1 n) (P := fun j s => ∀ (H2 : ex_H) (m2 : Int32) (C2 : Nat → Int32), ex_ch H H2 [86, 96] → mo_at H2 S R m2 C2 N → ex_W mX10_spikes (d + 6) 0 0 _ H2 31 [(0, .ref 86), (1, .int (nI f)), (2, .int (nI t)), (3, .int (nI s)), (4, .int (nI j))] [] 0 0) S.2.2.1.1.2.1 0 (fun j s hj _ ko => ?_) ?_ H mn C ex_ch.rf hS
      · intro H2 m2 C2 hc2 hS2
        obtain ⟨b1, -, ⟨W2, b2, bw0, -⟩, -⟩ := id hS2
        obtain ⟨-, w0, w1, -⟩ := id bw0
        have w1 : W2 1 = nI S.2.2.1.1.2.1 := w1
        refine ew_iload (M := mX10_spikes) dX10_spikes_31 rfl ?_
        refine ew_aload_n (M := mX10_spikes) dX10_spikes_33 rfl (Or.inr (Or.inl ⟨_, rfl⟩)) ?_
        refine ew_get (M := mX10_spikes) dX10_spikes_34 fX10_7 (by repeat (first | with_reducible assumption | refine ex_eq ?_ | refine ex_ne ?_ (by omega) | exact ex_lt (by with_reducible assumption) | rw [List.length_set] | assumption)) (by rfl) ?_
        refine ew_iconst (M := mX10_spikes) dX10_spikes_37 (v := nI 1) (by decide) ?_
        refine ew_iald (M := mX10_spikes) 1 dX10_spikes_38 (by repeat (first | with_reducible assumption | refine ex_eq ?_ | refine ex_ne ?_ (by omega) | exact ex_lt (by with_reducible assumption) | rw [List.length_set] | assumption)) ⟨rfl, by decide, by decide⟩ ?_
        rw [w1]
        refine ew_icmp_ge (M := mX10_spikes) (tgt := 124) dX10_spikes_39 rfl (fun h => absurd h (nI_ge hj (by omega))) (fun _ => ?_)
        refine ew_iconst (M := mX10_spikes) dX10_spikes_42 (v := nI 0) (by decide) ?_
        refine ew_istore (M := mX10_spikes) dX10_spikes_43 (by decide) rfl ?_
        refine ew_ls [(0, .ref 86), (1, .int (nI f)), (2, .int (nI t)), (3, .int (nI s)), (4, .int (nI j)), (5, .int (nI 0))] ⟨rfl, rfl, rfl, rfl, rfl, rfl, trivial⟩ ?_
        refine fl_down (F := (fun i n => if S.2.2.1.1.2.2.2 (j * S.2.2.1.1.1 + i) = 0 then (if absI (nI (S.2.2.1.1.2.2.1 (j * S.2.2.1.1.1 + i)) - nI (lsV S.2.2.1.1 (S.2.2.1.2.1.2 f) S.2.2.1.2.2.1 i j)) ≤ nI t then n else n + 1) else n)) (P := fun i s => ∀ (H2 : ex_H) (m2 : Int32) (C2 : Nat → Int32), ex_ch H H2 [86, 96] → mo_at H2 S R m2 C2 N → ex_W mX10_spikes (d + 6) 0 0 _ H2 45 [(0, .ref 86), (1, .int (nI f)), (2, .int (nI t)), (3, .int (nI s)), (4, .int (nI j)), (5, .int (nI i))] [] 0 0) S.2.2.1.1.1 s (fun i s hi _ ki => ?_) ?_ H2 m2 C2 hc2 hS2
        · intro H3 m3 C3 hc3 hS3
          obtain ⟨d1, -, ⟨W3, d2, dw0, -⟩, -⟩ := id hS3
          obtain ⟨-, x0, x1, -⟩ := id dw0
          have x1 : W3 1 = nI S.2.2.1.1.2.1 := x1
          have hm2 := hgm _ (pi_lt hi hj)
          by_cases hm : S.2.2.1.1.2.2.2 (j * S.2.2.1.1.1 + i) = 0
          · simp only [hm, ↓reduceIte] at ki
            have hL := ls_pos (v := (S.2.2.1.2.1.2 f)) (fi := S.2.2.1.2.2.1) ⟨⟨hz1, hz2, hz3, hz4⟩, hgm⟩ hi hj hm f3
            refine ew_iload (M := mX10_spikes) dX10_spikes_45 rfl ?_
            refine ew_aload_n (M := mX10_spikes) dX10_spikes_47 rfl (Or.inr (Or.inl ⟨_, rfl⟩)) ?_
            refine ew_get (M := mX10_spikes) dX10_spikes_48 fX10_7 (by repeat (first | with_reducible assumption | refine ex_eq ?_ | refine ex_ne ?_ (by omega) | exact ex_lt (by with_reducible assumption) | rw [List.length_set] | assumption)) (by rfl) ?_
            refine ew_iconst (M := mX10_spikes) dX10_spikes_51 (v := nI 0) (by decide) ?_
            refine ew_iald (M := mX10_spikes) 0 dX10_spikes_52 (by repeat (first | with_reducible assumption | refine ex_eq ?_ | refine ex_ne ?_ (by omega) | exact ex_lt (by with_reducible assumption) | rw [List.length_set] | assumption)) ⟨rfl, by decide, by decide⟩ ?_
            rw [x0]
            refine ew_icmp_ge (M := mX10_spikes) (tgt := 118) dX10_spikes_53 rfl (fun h => absurd h (nI_ge hi (by omega))) (fun _ => ?_)
            refine ew_aload_n (M := mX10_spikes) dX10_spikes_56 rfl (Or.inr (Or.inl ⟨_, rfl⟩)) ?_
            refine ew_iload (M := mX10_spikes) dX10_spikes_57 rfl ?_
            refine ew_iload (M := mX10_spikes) dX10_spikes_59 rfl ?_
            refine ew_callV (M := mX10_spikes) dX10_spikes_61 vX10_62 (by repeat (first | with_reducible assumption | refine ex_eq ?_ | refine ex_ne ?_ (by omega) | exact ex_lt (by with_reducible assumption) | rw [List.length_set] | assumption)) rfl (ms_isMasked hS3 hi hj) rfl (Nat.le_of_ble_eq_true rfl) ⟨Nat.le_refl _, Nat.le_refl _⟩ rfl (fun H61 r61 q61 => ?_)
            obtain ⟨rfl, rfl⟩ := q61
            rw [hm]
            refine ew_if_eq (M := mX10_spikes) (tgt := 71) dX10_spikes_64 rfl (fun _ => ?_) (fun h => absurd rfl h)
            refine ew_aload_n (M := mX10_spikes) dX10_spikes_71 rfl (Or.inr (Or.inl ⟨_, rfl⟩)) ?_
            refine ew_iload (M := mX10_spikes) dX10_spikes_72 rfl ?_
            refine ew_iload (M := mX10_spikes) dX10_spikes_74 rfl ?_
            refine ew_callV (M := mX10_spikes) dX10_spikes_76 vX10_137 (by repeat (first | with_reducible assumption | refine ex_eq ?_ | refine ex_ne ?_ (by omega) | exact ex_lt (by with_reducible assumption) | rw [List.length_set] | assumption)) rfl (ms_grey hS3 hi hj) rfl (Nat.le_of_ble_eq_true rfl) ⟨Nat.le_refl _, Nat.le_refl _⟩ rfl (fun H76 r76 q76 => ?_)
            obtain ⟨rfl, rfl⟩ := q76
            refine ew_aload_n (M := mX10_spikes) dX10_spikes_79 rfl (Or.inr (Or.inl ⟨_, rfl⟩)) ?_
            refine ew_iload_n (M := mX10_spikes) dX10_spikes_80 rfl ?_
            refine ew_iload (M := mX10_spikes) dX10_spikes_81 rfl ?_
            refine ew_iload (M := mX10_spikes) dX10_spikes_83 rfl ?_
            refine ew_callV (M := mX10_spikes) dX10_spikes_85 vX10_157 (by repeat (first | with_reducible assumption | refine ex_eq ?_ | refine ex_ne ?_ (by omega) | exact ex_lt (by with_reducible assumption) | rw [List.length_set] | assumption)) rfl (ms_lastOf hS3 hf hi hj) rfl (Nat.le_of_ble_eq_true rfl) ⟨Nat.le_refl _, Nat.le_refl _⟩ rfl (fun H85 r85 q85 => ?_)
            obtain ⟨rfl, hc4, n4, C4, hS4, -⟩ := q85
            rw [hL.1]
            refine ew_isub (M := mX10_spikes) dX10_spikes_88 ?_
            refine ew_istore (M := mX10_spikes) dX10_spikes_89 (by decide) rfl ?_
            refine ew_iload_n (M := mX10_spikes) dX10_spikes_91 rfl ?_
            refine ew_iload (M := mX10_spikes) dX10_spikes_92 rfl ?_
            refine ew_iload_n (M := mX10_spikes) dX10_spikes_94 rfl ?_
            refine ew_icmp_gt (M := mX10_spikes) (tgt := 105) dX10_spikes_95 rfl (fun c95 => ?_) (fun c95 => ?_)
            · rw [if_neg ((off_le hm2.1 hL.2 (by omega)).mp (Or.inl c95))] at ki
              refine ew_iconst (M := mX10_spikes) dX10_spikes_105 (v := nI 1) (by decide) ?_
              refine ew_goto (M := mX10_spikes) (tgt := 110) dX10_spikes_106 rfl ?_
              refine ew_iadd (M := mX10_spikes) dX10_spikes_110 ?_
              rw [nI_add]
              refine ew_istore_n (M := mX10_spikes) dX10_spikes_111 (by decide) rfl ?_
              refine ew_iinc (M := mX10_spikes) dX10_spikes_112 rfl (ex_inc i) (by decide) rfl ?_
              refine ew_goto (M := mX10_spikes) (tgt := 45) dX10_spikes_115 rfl ?_
              refine ew_ls _ ?_ (ki _ _ _ (hc3.tr hc4 (by simp)) hS4)
              exact ⟨rfl, rfl, rfl, rfl, rfl, rfl, trivial⟩
            · refine ew_iload (M := mX10_spikes) dX10_spikes_98 rfl ?_
              refine ew_ineg (M := mX10_spikes) dX10_spikes_100 ?_
              refine ew_iload_n (M := mX10_spikes) dX10_spikes_101 rfl ?_
              refine ew_icmp_le (M := mX10_spikes) (tgt := 109) dX10_spikes_102 rfl (fun c102 => ?_) (fun c102 => ?_)
              · rw [if_pos (Classical.not_not.mp (fun q => ((off_le hm2.1 hL.2 (by omega)).mpr q).elim c95 (fun q => Int32.not_lt.mpr c102 q)))] at ki
                refine ew_iconst (M := mX10_spikes) dX10_spikes_109 (v := nI 0) (by decide) ?_
                refine ew_iadd (M := mX10_spikes) dX10_spikes_110 ?_
                rw [nI_add]
                refine ew_istore_n (M := mX10_spikes) dX10_spikes_111 (by decide) rfl ?_
                refine ew_iinc (M := mX10_spikes) dX10_spikes_112 rfl (ex_inc i) (by decide) rfl ?_
                refine ew_goto (M := mX10_spikes) (tgt := 45) dX10_spikes_115 rfl ?_
                refine ew_ls _ ?_ (ki _ _ _ (hc3.tr hc4 (by simp)) hS4)
                exact ⟨rfl, rfl, rfl, rfl, rfl, rfl, trivial⟩
              · rw [if_neg ((off_le hm2.1 hL.2 (by omega)).mp (Or.inr (Int32.not_le.mp c102)))] at ki
                refine ew_iconst (M := mX10_spikes) dX10_spikes_105 (v := nI 1) (by decide) ?_
                refine ew_goto (M := mX10_spikes) (tgt := 110) dX10_spikes_106 rfl ?_
                refine ew_iadd (M := mX10_spikes) dX10_spikes_110 ?_
                rw [nI_add]
                refine ew_istore_n (M := mX10_spikes) dX10_spikes_111 (by decide) rfl ?_
                refine ew_iinc (M := mX10_spikes) dX10_spikes_112 rfl (ex_inc i) (by decide) rfl ?_
                refine ew_goto (M := mX10_spikes) (tgt := 45) dX10_spikes_115 rfl ?_
                refine ew_ls _ ?_ (ki _ _ _ (hc3.tr hc4 (by simp)) hS4)
                exact ⟨rfl, rfl, rfl, rfl, rfl, rfl, trivial⟩
          · simp only [hm, ↓reduceIte] at ki
            refine ew_iload (M := mX10_spikes) dX10_spikes_45 rfl ?_
            refine ew_aload_n (M := mX10_spikes) dX10_spikes_47 rfl (Or.inr (Or.inl ⟨_, rfl⟩)) ?_
            refine ew_get (M := mX10_spikes) dX10_spikes_48 fX10_7 (by repeat (first | with_reducible assumption | refine ex_eq ?_ | refine ex_ne ?_ (by omega) | exact ex_lt (by with_reducible assumption) | rw [List.length_set] | assumption)) (by rfl) ?_
            refine ew_iconst (M := mX10_spikes) dX10_spikes_51 (v := nI 0) (by decide) ?_
            refine ew_iald (M := mX10_spikes) 0 dX10_spikes_52 (by repeat (first | with_reducible assumption | refine ex_eq ?_ | refine ex_ne ?_ (by omega) | exact ex_lt (by with_reducible assumption) | rw [List.length_set] | assumption)) ⟨rfl, by decide, by decide⟩ ?_
            rw [x0]
            refine ew_icmp_ge (M := mX10_spikes) (tgt := 118) dX10_spikes_53 rfl (fun h => absurd h (nI_ge hi (by omega))) (fun _ => ?_)
            refine ew_aload_n (M := mX10_spikes) dX10_spikes_56 rfl (Or.inr (Or.inl ⟨_, rfl⟩)) ?_
            refine ew_iload (M := mX10_spikes) dX10_spikes_57 rfl ?_
            refine ew_iload (M := mX10_spikes) dX10_spikes_59 rfl ?_
            refine ew_callV (M := mX10_spikes) dX10_spikes_61 vX10_62 (by repeat (first | with_reducible assumption | refine ex_eq ?_ | refine ex_ne ?_ (by omega) | exact ex_lt (by with_reducible assumption) | rw [List.length_set] | assumption)) rfl (ms_isMasked hS3 hi hj) rfl (Nat.le_of_ble_eq_true rfl) ⟨Nat.le_refl _, Nat.le_refl _⟩ rfl (fun H61 r61 q61 => ?_)
            obtain ⟨rfl, rfl⟩ := q61
            refine ew_if_eq (M := mX10_spikes) (tgt := 71) dX10_spikes_64 rfl (fun h => absurd h (nI_n0 (by omega) (by omega))) (fun _ => ?_)
            refine ew_iconst (M := mX10_spikes) dX10_spikes_67 (v := nI 0) (by decide) ?_
            refine ew_goto (M := mX10_spikes) (tgt := 89) dX10_spikes_68 rfl ?_
            refine ew_istore (M := mX10_spikes) dX10_spikes_89 (by decide) rfl ?_
            refine ew_iload_n (M := mX10_spikes) dX10_spikes_91 rfl ?_
            refine ew_iload (M := mX10_spikes) dX10_spikes_92 rfl ?_
            refine ew_iload_n (M := mX10_spikes) dX10_spikes_94 rfl ?_
            refine ew_icmp_gt (M := mX10_spikes) (tgt := 105) dX10_spikes_95 rfl (fun h => absurd h (nI_nlt (Nat.zero_le _) (by omega))) (fun _ => ?_)
            refine ew_iload (M := mX10_spikes) dX10_spikes_98 rfl ?_
            refine ew_ineg (M := mX10_spikes) dX10_spikes_100 ?_
            refine ew_iload_n (M := mX10_spikes) dX10_spikes_101 rfl ?_
            refine ew_icmp_le (M := mX10_spikes) (tgt := 109) dX10_spikes_102 rfl (fun _ => ?_) (fun h => absurd (by show -nI 0 ≤ nI t; exact Int32.le_trans (by decide) (nI_pos' (by omega))) h)
            refine ew_iconst (M := mX10_spikes) dX10_spikes_109 (v := nI 0) (by decide) ?_
            refine ew_iadd (M := mX10_spikes) dX10_spikes_110 ?_
            rw [nI_add]
            refine ew_istore_n (M := mX10_spikes) dX10_spikes_111 (by decide) rfl ?_
            refine ew_iinc (M := mX10_spikes) dX10_spikes_112 rfl (ex_inc i) (by decide) rfl ?_
            refine ew_goto (M := mX10_spikes) (tgt := 45) dX10_spikes_115 rfl ?_
            refine ew_ls _ ?_ (ki _ _ _ hc3 hS3)
            exact ⟨rfl, rfl, rfl, rfl, rfl, rfl, trivial⟩
        · intro H3 m3 C3 hc3 hS3
          obtain ⟨d1, -, ⟨W3, d2, dw0, -⟩, -⟩ := id hS3
          obtain ⟨-, x0, x1, -⟩ := id dw0
          have x1 : W3 1 = nI S.2.2.1.1.2.1 := x1
          refine ew_iload (M := mX10_spikes) dX10_spikes_45 rfl ?_
          refine ew_aload_n (M := mX10_spikes) dX10_spikes_47 rfl (Or.inr (Or.inl ⟨_, rfl⟩)) ?_
          refine ew_get (M := mX10_spikes) dX10_spikes_48 fX10_7 (by repeat (first | with_reducible assumption | refine ex_eq ?_ | refine ex_ne ?_ (by omega) | exact ex_lt (by with_reducible assumption) | rw [List.length_set] | assumption)) (by rfl) ?_
          refine ew_iconst (M := mX10_spikes) dX10_spikes_51 (v := nI 0) (by decide) ?_
          refine ew_iald (M := mX10_spikes) 0 dX10_spikes_52 (by repeat (first | with_reducible assumption | refine ex_eq ?_ | refine ex_ne ?_ (by omega) | exact ex_lt (by with_reducible assumption) | rw [List.length_set] | assumption)) ⟨rfl, by decide, by decide⟩ ?_
          rw [x0]
          refine ew_icmp_ge (M := mX10_spikes) (tgt := 118) dX10_spikes_53 rfl (fun _ => ?_) (fun h => absurd (nI_le (Nat.le_refl _) (by omega)) h)
          refine ew_iinc (M := mX10_spikes) dX10_spikes_118 rfl (ex_inc j) (by decide) rfl ?_
          refine ew_goto (M := mX10_spikes) (tgt := 31) dX10_spikes_121 rfl ?_
          refine ew_ls _ ?_ (ko _ _ _ hc3 hS3)
          exact ⟨rfl, rfl, rfl, rfl, rfl, trivial⟩
      · intro H2 m2 C2 hc2 hS2
        obtain ⟨b1, -, ⟨W2, b2, bw0, -⟩, -⟩ := id hS2
        obtain ⟨-, w0, w1, -⟩ := id bw0
        have w1 : W2 1 = nI S.2.2.1.1.2.1 := w1
        refine ew_iload (M := mX10_spikes) dX10_spikes_31 rfl ?_
        refine ew_aload_n (M := mX10_spikes) dX10_spikes_33 rfl (Or.inr (Or.inl ⟨_, rfl⟩)) ?_
        refine ew_get (M := mX10_spikes) dX10_spikes_34 fX10_7 (by repeat (first | with_reducible assumption | refine ex_eq ?_ | refine ex_ne ?_ (by omega) | exact ex_lt (by with_reducible assumption) | rw [List.length_set] | assumption)) (by rfl) ?_
        refine ew_iconst (M := mX10_spikes) dX10_spikes_37 (v := nI 1) (by decide) ?_
        refine ew_iald (M := mX10_spikes) 1 dX10_spikes_38 (by repeat (first | with_reducible assumption | refine ex_eq ?_ | refine ex_ne ?_ (by omega) | exact ex_lt (by with_reducible assumption) | rw [List.length_set] | assumption)) ⟨rfl, by decide, by decide⟩ ?_
        rw [w1]
        refine ew_icmp_ge (M := mX10_spikes) (tgt := 124) dX10_spikes_39 rfl (fun _ => ?_) (fun h => absurd (nI_le (Nat.le_refl _) (by omega)) h)
        refine ew_iload_n (M := mX10_spikes) dX10_spikes_124 rfl ?_
        refine ew_iret (M := mX10_spikes) dX10_spikes_125 rfl (by first | rfl | decide) (Nat.le_refl _) (Nat.le_refl _) ?_
        exact ⟨rfl, hc2.sub (mL_sub (by decide)), _, _, _, _, hS2⟩
    · have ef : f_spikes S (nI f) t = (-1000000002, S) := by
        unfold f_spikes
        rw [cif_y hx, cif_n hy]
      refine ex_meth [(0, .ref 86), (1, .int (nI f)), (2, .int t)] rfl rfl rfl (fun b => Nat.le_of_ble_eq_true rfl) ?_
      refine ew_aload_n (M := mX10_spikes) dX10_spikes_0 rfl (Or.inr (Or.inl ⟨_, rfl⟩)) ?_
      refine ew_iload_n (M := mX10_spikes) dX10_spikes_1 rfl ?_
      refine ew_callV (M := mX10_spikes) dX10_spikes_2 vX10_186 (by repeat (first | with_reducible assumption | refine ex_eq ?_ | refine ex_ne ?_ (by omega) | exact ex_lt (by with_reducible assumption) | rw [List.length_set] | assumption)) rfl (ms_isFilter_y hS hf) rfl (Nat.le_of_ble_eq_true rfl) ⟨Nat.le_refl _, Nat.le_refl _⟩ rfl (fun H2 r2 q2 => ?_)
      obtain ⟨rfl, rfl⟩ := q2
      refine ew_if_ne (M := mX10_spikes) (tgt := 11) dX10_spikes_5 rfl (fun _ => ?_) (fun h => absurd h (by decide))
      refine ew_iload_n (M := mX10_spikes) dX10_spikes_11 rfl ?_
      refine ew_i2l (M := mX10_spikes) dX10_spikes_12 ?_
      refine ew_lconst (M := mX10_spikes) dX10_spikes_13 (v := 0) (by decide) ?_
      refine ew_ldc2 (M := mX10_spikes) dX10_spikes_14 kX10_108 ?_
      refine ew_callS (M := mX10_spikes) dX10_spikes_17 vX10_58 (ms_in_n (l := nI 0) (g := nI 255) (by decide) (by decide) hy) rfl (Nat.le_of_ble_eq_true rfl) ⟨Nat.le_refl _, Nat.le_refl _⟩ rfl (fun H17 r17 q17 => ?_)
      obtain ⟨rfl, rfl⟩ := q17
      refine ew_if_ne (M := mX10_spikes) (tgt := 26) dX10_spikes_20 rfl (fun h => absurd (by decide) h) (fun _ => ?_)
      refine ew_ldc (M := mX10_spikes) dX10_spikes_23 kX10_110 ?_
      refine ew_iret (M := mX10_spikes) dX10_spikes_25 rfl (by first | rfl | decide) (Nat.le_refl _) (Nat.le_refl _) ?_
      exact ⟨by rw [ef], ex_ch.rf, by rw [ef]; exact ⟨_, _, _, _, hS⟩⟩
  · have ef : f_spikes S f t = (-1000000001, S) := by
      unfold f_spikes
      rw [cif_n hx]
    refine ex_meth [(0, .ref 86), (1, .int f), (2, .int t)] rfl rfl rfl (fun b => Nat.le_of_ble_eq_true rfl) ?_
    refine ew_aload_n (M := mX10_spikes) dX10_spikes_0 rfl (Or.inr (Or.inl ⟨_, rfl⟩)) ?_
    refine ew_iload_n (M := mX10_spikes) dX10_spikes_1 rfl ?_
    refine ew_callV (M := mX10_spikes) dX10_spikes_2 vX10_186 (by repeat (first | with_reducible assumption | refine ex_eq ?_ | refine ex_ne ?_ (by omega) | exact ex_lt (by with_reducible assumption) | rw [List.length_set] | assumption)) rfl (ms_isFilter_n hS hx) rfl (Nat.le_of_ble_eq_true rfl) ⟨Nat.le_refl _, Nat.le_refl _⟩ rfl (fun H2 r2 q2 => ?_)
    obtain ⟨rfl, rfl⟩ := q2
    refine ew_if_ne (M := mX10_spikes) (tgt := 11) dX10_spikes_5 rfl (fun h => absurd (by decide) h) (fun _ => ?_)
    refine ew_ldc (M := mX10_spikes) dX10_spikes_8 kX10_175 ?_
    refine ew_iret (M := mX10_spikes) dX10_spikes_10 rfl (by first | rfl | decide) (Nat.le_refl _) (Nat.le_refl _) ?_
    exact ⟨by rw [ef], ex_ch.rf, by rw [ef]; exact ⟨_, _, _, _, hS⟩⟩
