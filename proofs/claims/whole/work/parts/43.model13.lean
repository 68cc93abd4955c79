def fgI (x : Nat) : Int32 := if 48 ≤ x ∧ x ≤ 57 then nI (x - 48) else if 97 ≤ x ∧ x ≤ 102 then nI (x - 97 + 10) else -1
theorem ms_figure {d : Nat} {H : ex_H} {x : Nat} (hx : x < 256) : ex_Met mX10_figure (d + 1) 0 0 H [.int (nI x)] (ex_r H (.int (fgI x))) := by
  unfold fgI
  by_cases h1 : 48 ≤ x ∧ x ≤ 57
  · rw [if_pos h1]
    refine ex_meth [(0, .int (nI x))] rfl rfl rfl (fun b => Nat.le_of_ble_eq_true rfl) ?_
    refine ew_iload_n (M := mX10_figure) dX10_figure_0 rfl ?_
    refine ew_i2l (M := mX10_figure) dX10_figure_1 ?_
    refine ew_ldc2 (M := mX10_figure) dX10_figure_2 kX10_66 ?_
    refine ew_ldc2 (M := mX10_figure) dX10_figure_5 kX10_68 ?_
    refine ew_callS (M := mX10_figure) dX10_figure_8 vX10_58 (ms_in_y (l := nI 48) (g := nI 57) (by decide) (by decide) (nI_le (by omega) (by omega)) (nI_le (by omega) (by omega))) rfl (Nat.le_of_ble_eq_true rfl) ⟨Nat.le_refl _, Nat.le_refl _⟩ rfl (fun H8 r8 q8 => ?_)
    obtain ⟨rfl, rfl⟩ := q8
    refine ew_if_eq (M := mX10_figure) (tgt := 21) dX10_figure_11 rfl (fun h => absurd h (by decide)) (fun _ => ?_)
    refine ew_iload_n (M := mX10_figure) dX10_figure_14 rfl ?_
    refine ew_bipush (M := mX10_figure) dX10_figure_15 (v := nI 48) (by decide) ?_
    refine ew_isub (M := mX10_figure) dX10_figure_17 ?_
    rw [nI_sb (by omega)]
    refine ew_goto (M := mX10_figure) (tgt := 46) dX10_figure_18 rfl ?_
    refine ew_iret (M := mX10_figure) dX10_figure_46 rfl (by first | rfl | decide) (Nat.le_refl _) (Nat.le_refl _) ?_
    exact ⟨rfl, rfl⟩
  · rw [if_neg h1]
    by_cases h2 : 97 ≤ x ∧ x ≤ 102
    · rw [if_pos h2]
      refine ex_meth [(0, .int (nI x))] rfl rfl rfl (fun b => Nat.le_of_ble_eq_true rfl) ?_
      refine ew_iload_n (M := mX10_figure) dX10_figure_0 rfl ?_
      refine ew_i2l (M := mX10_figure) dX10_figure_1 ?_
      refine ew_ldc2 (M := mX10_figure) dX10_figure_2 kX10_66 ?_
      refine ew_ldc2 (M := mX10_figure) dX10_figure_5 kX10_68 ?_
      refine ew_callS (M := mX10_figure) dX10_figure_8 vX10_58 (ms_in_n (l := nI 48) (g := nI 57) (by decide) (by decide) (fun q => h1 ⟨(nI_leI (by omega) (by omega)).mp q.1, (nI_leI (by omega) (by omega)).mp q.2⟩)) rfl (Nat.le_of_ble_eq_true rfl) ⟨Nat.le_refl _, Nat.le_refl _⟩ rfl (fun H8 r8 q8 => ?_)
      obtain ⟨rfl, rfl⟩ := q8
      refine ew_if_eq (M := mX10_figure) (tgt := 21) dX10_figure_11 rfl (fun _ => ?_) (fun h => absurd (by decide) h)
      refine ew_iload_n (M := mX10_figure) dX10_figure_21 rfl ?_
      refine ew_i2l (M := mX10_figure) dX10_figure_22 ?_
      refine ew_ldc2 (M := mX10_figure) dX10_figure_23 kX10_70 ?_
      refine ew_ldc2 (M := mX10_figure) dX10_figure_26 kX10_72 ?_
      refine ew_callS (M := mX10_figure) dX10_figure_29 vX10_58 (ms_in_y (l := nI 97) (g := nI 102) (by decide) (by decide) (nI_le (by omega) (by omega)) (nI_le (by omega) (by omega))) rfl (Nat.le_of_ble_eq_true rfl) ⟨Nat.le_refl _, Nat.le_refl _⟩ rfl (fun H29 r29 q29 => ?_)
      obtain ⟨rfl, rfl⟩ := q29
      refine ew_if_eq (M := mX10_figure) (tgt := 45) dX10_figure_32 rfl (fun h => absurd h (by decide)) (fun _ => ?_)
      refine ew_iload_n (M := mX10_figure) dX10_figure_35 rfl ?_
      refine ew_bipush (M := mX10_figure) dX10_figure_36 (v := nI 97) (by decide) ?_
      refine ew_isub (M := mX10_figure) dX10_figure_38 ?_
      rw [nI_sb (by omega)]
      refine ew_bipush (M := mX10_figure) dX10_figure_39 (v := nI 10) (by decide) ?_
      refine ew_iadd (M := mX10_figure) dX10_figure_41 ?_
      rw [nI_add]
      refine ew_goto (M := mX10_figure) (tgt := 46) dX10_figure_42 rfl ?_
      refine ew_iret (M := mX10_figure) dX10_figure_46 rfl (by first | rfl | decide) (Nat.le_refl _) (Nat.le_refl _) ?_
      exact ⟨rfl, rfl⟩
    · rw [if_neg h2]
      refine ex_meth [(0, .int (nI x))] rfl rfl rfl (fun b => Nat.le_of_ble_eq_true rfl) ?_
      refine ew_iload_n (M := mX10_figure) dX10_figure_0 rfl ?_
      refine ew_i2l (M := mX10_figure) dX10_figure_1 ?_
      refine ew_ldc2 (M := mX10_figure) dX10_figure_2 kX10_66 ?_
      refine ew_ldc2 (M := mX10_figure) dX10_figure_5 kX10_68 ?_
      refine ew_callS (M := mX10_figure) dX10_figure_8 vX10_58 (ms_in_n (l := nI 48) (g := nI 57) (by decide) (by decide) (fun q => h1 ⟨(nI_leI (by omega) (by omega)).mp q.1, (nI_leI (by omega) (by omega)).mp q.2⟩)) rfl (Nat.le_of_ble_eq_true rfl) ⟨Nat.le_refl _, Nat.le_refl _⟩ rfl (fun H8 r8 q8 => ?_)
      obtain ⟨rfl, rfl⟩ := q8
      refine ew_if_eq (M := mX10_figure) (tgt := 21) dX10_figure_11 rfl (fun _ => ?_) (fun h => absurd (by decide) h)
      refine ew_iload_n (M := mX10_figure) dX10_figure_21 rfl ?_
      refine ew_i2l (M := mX10_figure) dX10_figure_22 ?_
      refine ew_ldc2 (M := mX10_figure) dX10_figure_23 kX10_70 ?_
      refine ew_ldc2 (M := mX10_figure) dX10_figure_26 kX10_72 ?_
      refine ew_callS (M := mX10_figure) dX10_figure_29 vX10_58 (ms_in_n (l := nI 97) (g := nI 102) (by decide) (by decide) (fun q => h2 ⟨(nI_leI (by omega) (by omega)).mp q.1, (nI_leI (by omega) (by omega)).mp q.2⟩)) rfl (Nat.le_of_ble_eq_true rfl) ⟨Nat.le_refl _, Nat.le_refl _⟩ rfl (fun H29 r29 q29 => ?_)
      obtain ⟨rfl, rfl⟩ := q29
      refine ew_if_eq (M := mX10_figure) (tgt := 45) dX10_figure_32 rfl (fun _ => ?_) (fun h => absurd (by decide) h)
      refine ew_iconst (M := mX10_figure) dX10_figure_45 (v := (-1)) (by decide) ?_
      refine ew_iret (M := mX10_figure) dX10_figure_46 rfl (by first | rfl | decide) (Nat.le_refl _) (Nat.le_refl _) ?_
      exact ⟨rfl, rfl⟩
theorem fg_sg {x : Nat} (h : x ≠ 45) : fgI x = oI (sg x) ∧ ∀ s, sg x = some s → s < 16 := by
  unfold fgI sg
  by_cases h1 : 48 ≤ x ∧ x ≤ 57
  · rw [if_pos h1, if_pos h1]
    exact ⟨rfl, fun s e => by injection e with e; omega⟩
  · rw [if_neg h1, if_neg h1]
    by_cases h2 : 97 ≤ x ∧ x ≤ 102
    · rw [if_pos h2, if_pos h2]
      exact ⟨rfl, fun s e => by injection e with e; omega⟩
    · rw [if_neg h2, if_neg h2, if_neg h]
      exact ⟨rfl, fun s e => by cases e⟩
theorem sg_45 : sg 45 = some 16 ∧ fgI 45 = -1 := by decide
/-- what the model keeps of half a dot -/
def mh (hf : Nat) : Nat := if hf = 0 then 0 else if hf = 17 then 15 else 15 + hf
theorem mh_z {hf : Nat} : mh hf = 0 ↔ hf = 0 := by
  unfold mh
  repeat' split
  all_goals omega
theorem mh_15 {hf : Nat} (h : hf ≤ 17) : mh hf = 15 ↔ hf = 17 := by
  unfold mh
  repeat' split
  all_goals omega
theorem mh_le {hf : Nat} (h : hf ≤ 17) : mh hf ≤ 32 := by
  unfold mh
  repeat' split
  all_goals omega
abbrev rdR (r c wd hf : Nat) : Int32 × Int32 × Int32 × Int32 := (nI r, nI c, nI wd, nI (mh hf))
def rdb (r c wd hf : Nat) : Prop := r ≤ 7 ∧ c ≤ 10 ∧ wd ≤ 10 ∧ hf ≤ 17
theorem ms_isShort {d : Nat} {H : ex_H} {S : SS} {mn : Int32} {C N : Nat → Int32} {r c wd hf : Nat} (hS : mo_at H S (rdR r c wd hf) mn C N) (hb : rdb r c wd hf) : ex_Met mX10_isShort d 0 0 H [.ref 86] (ex_r H (.int (nI (if 0 < r ∧ c < wd then 1 else 0)))) := by
  have a1 := hS.1
  obtain ⟨b1, b2, b3, b4⟩ := hb
  have b5 := mh_le b4
  refine ex_meth [(0, .ref 86)] rfl rfl rfl (fun b => Nat.le_of_ble_eq_true rfl) ?_
  refine ew_aload_n (M := mX10_isShort) dX10_isShort_0 rfl (Or.inr (Or.inl ⟨_, rfl⟩)) ?_
  refine ew_get (M := mX10_isShort) dX10_isShort_1 fX10_74 (by repeat (first | with_reducible assumption | refine ex_eq ?_ | refine ex_ne ?_ (by omega) | exact ex_lt (by with_reducible assumption) | rw [List.length_set] | assumption)) (by rfl) ?_
  refine ew_if_le (M := mX10_isShort) (tgt := 22) dX10_isShort_4 rfl (fun c4 => ?_) (fun c4 => ?_)
  · rw [← nI_0, nI_leI (by omega) (by omega)] at c4
    rw [if_neg (by omega)]
    refine ew_iconst (M := mX10_isShort) dX10_isShort_22 (v := nI 0) (by decide) ?_
    refine ew_iret (M := mX10_isShort) dX10_isShort_23 rfl (by first | rfl | decide) (Nat.le_refl _) (Nat.le_refl _) ?_
    exact ⟨rfl, rfl⟩
  · rw [← nI_0, nI_leI (by omega) (by omega)] at c4
    refine ew_aload_n (M := mX10_isShort) dX10_isShort_7 rfl (Or.inr (Or.inl ⟨_, rfl⟩)) ?_
    refine ew_get (M := mX10_isShort) dX10_isShort_8 fX10_77 (by repeat (first | with_reducible assumption | refine ex_eq ?_ | refine ex_ne ?_ (by omega) | exact ex_lt (by with_reducible assumption) | rw [List.length_set] | assumption)) (by rfl) ?_
    refine ew_aload_n (M := mX10_isShort) dX10_isShort_11 rfl (Or.inr (Or.inl ⟨_, rfl⟩)) ?_
    refine ew_get (M := mX10_isShort) dX10_isShort_12 fX10_80 (by repeat (first | with_reducible assumption | refine ex_eq ?_ | refine ex_ne ?_ (by omega) | exact ex_lt (by with_reducible assumption) | rw [List.length_set] | assumption)) (by rfl) ?_
    refine ew_icmp_ge (M := mX10_isShort) (tgt := 22) dX10_isShort_15 rfl (fun c15 => ?_) (fun c15 => ?_)
    · rw [nI_leI (by omega) (by omega)] at c15
      rw [if_neg (by omega)]
      refine ew_iconst (M := mX10_isShort) dX10_isShort_22 (v := nI 0) (by decide) ?_
      refine ew_iret (M := mX10_isShort) dX10_isShort_23 rfl (by first | rfl | decide) (Nat.le_refl _) (Nat.le_refl _) ?_
      exact ⟨rfl, rfl⟩
    · rw [nI_leI (by omega) (by omega)] at c15
      rw [if_pos (by omega)]
      refine ew_iconst (M := mX10_isShort) dX10_isShort_18 (v := nI 1) (by decide) ?_
      refine ew_goto (M := mX10_isShort) (tgt := 23) dX10_isShort_19 rfl ?_
      refine ew_iret (M := mX10_isShort) dX10_isShort_23 rfl (by first | rfl | decide) (Nat.le_refl _) (Nat.le_refl _) ?_
      exact ⟨rfl, rfl⟩
theorem ms_faultOfBreak {d : Nat} {H : ex_H} {S : SS} {mn : Int32} {C N : Nat → Int32} {r c wd hf : Nat} (hS : mo_at H S (rdR r c wd hf) mn C N) (hb : rdb r c wd hf) : ex_Met mX10_faultOfBreak (d + 1) 0 0 H [.ref 86] (ex_r H (.int (nI (if brk r c wd hf = 0 then (if r = 7 then 3 else 0) else brk r c wd hf)))) := by
  have hb' := hb
  have a1 := hS.1
  obtain ⟨b1, b2, b3, b4⟩ := hb
  have b5 := mh_le b4
  unfold brk
  by_cases h1 : hf ≠ 0 ∨ c = 0
  · rw [if_pos h1, if_neg (by decide)]
    refine ex_meth [(0, .ref 86)] rfl rfl rfl (fun b => Nat.le_of_ble_eq_true rfl) ?_
    refine ew_aload_n (M := mX10_faultOfBreak) dX10_faultOfBreak_0 rfl (Or.inr (Or.inl ⟨_, rfl⟩)) ?_
    refine ew_get (M := mX10_faultOfBreak) dX10_faultOfBreak_1 fX10_83 (by repeat (first | with_reducible assumption | refine ex_eq ?_ | refine ex_ne ?_ (by omega) | exact ex_lt (by with_reducible assumption) | rw [List.length_set] | assumption)) (by rfl) ?_
    refine ew_if_gt (M := mX10_faultOfBreak) (tgt := 14) dX10_faultOfBreak_4 rfl (fun c4 => ?_) (fun c4 => ?_)
    · refine ew_iconst (M := mX10_faultOfBreak) dX10_faultOfBreak_14 (v := nI 1) (by decide) ?_
      refine ew_iret (M := mX10_faultOfBreak) dX10_faultOfBreak_15 rfl (by first | rfl | decide) (Nat.le_refl _) (Nat.le_refl _) ?_
      exact ⟨rfl, rfl⟩
    · rw [← nI_0, nI_ltI (by omega) (by omega)] at c4
      have h0 : mh hf = 0 := by omega
      rw [mh_z] at h0
      refine ew_aload_n (M := mX10_faultOfBreak) dX10_faultOfBreak_7 rfl (Or.inr (Or.inl ⟨_, rfl⟩)) ?_
      refine ew_get (M := mX10_faultOfBreak) dX10_faultOfBreak_8 fX10_77 (by repeat (first | with_reducible assumption | refine ex_eq ?_ | refine ex_ne ?_ (by omega) | exact ex_lt (by with_reducible assumption) | rw [List.length_set] | assumption)) (by rfl) ?_
      refine ew_if_ne (M := mX10_faultOfBreak) (tgt := 16) dX10_faultOfBreak_11 rfl (fun c11 => ?_) (fun c11 => ?_)
      · rw [nI_z (by omega)] at c11
        exact absurd h1 (by omega)
      · refine ew_iconst (M := mX10_faultOfBreak) dX10_faultOfBreak_14 (v := nI 1) (by decide) ?_
        refine ew_iret (M := mX10_faultOfBreak) dX10_faultOfBreak_15 rfl (by first | rfl | decide) (Nat.le_refl _) (Nat.le_refl _) ?_
        exact ⟨rfl, rfl⟩
  · have h0 : hf = 0 := by omega
    subst h0
    rw [if_neg h1]
    by_cases h2 : 0 < r ∧ c < wd
    · rw [if_pos h2, if_neg (by decide)]
      refine ex_meth [(0, .ref 86)] rfl rfl rfl (fun b => Nat.le_of_ble_eq_true rfl) ?_
      refine ew_aload_n (M := mX10_faultOfBreak) dX10_faultOfBreak_0 rfl (Or.inr (Or.inl ⟨_, rfl⟩)) ?_
      refine ew_get (M := mX10_faultOfBreak) dX10_faultOfBreak_1 fX10_83 (by repeat (first | with_reducible assumption | refine ex_eq ?_ | refine ex_ne ?_ (by omega) | exact ex_lt (by with_reducible assumption) | rw [List.length_set] | assumption)) (by rfl) ?_
      refine ew_if_gt (M := mX10_faultOfBreak) (tgt := 14) dX10_faultOfBreak_4 rfl (fun h => absurd h (show ¬ (0 : Int32) < nI (mh 0) by decide)) (fun _ => ?_)
      refine ew_aload_n (M := mX10_faultOfBreak) dX10_faultOfBreak_7 rfl (Or.inr (Or.inl ⟨_, rfl⟩)) ?_
      refine ew_get (M := mX10_faultOfBreak) dX10_faultOfBreak_8 fX10_77 (by repeat (first | with_reducible assumption | refine ex_eq ?_ | refine ex_ne ?_ (by omega) | exact ex_lt (by with_reducible assumption) | rw [List.length_set] | assumption)) (by rfl) ?_
      refine ew_if_ne (M := mX10_faultOfBreak) (tgt := 16) dX10_faultOfBreak_11 rfl (fun _ => ?_) (fun h => absurd h (nI_n0 (by omega) (by omega)))
      refine ew_aload_n (M := mX10_faultOfBreak) dX10_faultOfBreak_16 rfl (Or.inr (Or.inl ⟨_, rfl⟩)) ?_
      refine ew_callV (M := mX10_faultOfBreak) dX10_faultOfBreak_17 vX10_86 (by repeat (first | with_reducible assumption | refine ex_eq ?_ | refine ex_ne ?_ (by omega) | exact ex_lt (by with_reducible assumption) | rw [List.length_set] | assumption)) rfl (ms_isShort hS hb') rfl (Nat.le_of_ble_eq_true rfl) ⟨Nat.le_refl _, Nat.le_refl _⟩ rfl (fun H17 r17 q17 => ?_)
      obtain ⟨rfl, rfl⟩ := q17
      rw [if_pos h2]
      refine ew_if_eq (M := mX10_faultOfBreak) (tgt := 27) dX10_faultOfBreak_20 rfl (fun h => absurd h (by decide)) (fun _ => ?_)
      refine ew_iconst (M := mX10_faultOfBreak) dX10_faultOfBreak_23 (v := nI 2) (by decide) ?_
      refine ew_goto (M := mX10_faultOfBreak) (tgt := 41) dX10_faultOfBreak_24 rfl ?_
      refine ew_iret (M := mX10_faultOfBreak) dX10_faultOfBreak_41 rfl (by first | rfl | decide) (Nat.le_refl _) (Nat.le_refl _) ?_
      exact ⟨rfl, rfl⟩
    · rw [if_neg h2, if_pos rfl]
      refine ex_meth [(0, .ref 86)] rfl rfl rfl (fun b => Nat.le_of_ble_eq_true rfl) ?_
      refine ew_aload_n (M := mX10_faultOfBreak) dX10_faultOfBreak_0 rfl (Or.inr (Or.inl ⟨_, rfl⟩)) ?_
      refine ew_get (M := mX10_faultOfBreak) dX10_faultOfBreak_1 fX10_83 (by repeat (first | with_reducible assumption | refine ex_eq ?_ | refine ex_ne ?_ (by omega) | exact ex_lt (by with_reducible assumption) | rw [List.length_set] | assumption)) (by rfl) ?_
      refine ew_if_gt (M := mX10_faultOfBreak) (tgt := 14) dX10_faultOfBreak_4 rfl (fun h => absurd h (show ¬ (0 : Int32) < nI (mh 0) by decide)) (fun _ => ?_)
      refine ew_aload_n (M := mX10_faultOfBreak) dX10_faultOfBreak_7 rfl (Or.inr (Or.inl ⟨_, rfl⟩)) ?_
      refine ew_get (M := mX10_faultOfBreak) dX10_faultOfBreak_8 fX10_77 (by repeat (first | with_reducible assumption | refine ex_eq ?_ | refine ex_ne ?_ (by omega) | exact ex_lt (by with_reducible assumption) | rw [List.length_set] | assumption)) (by rfl) ?_
      refine ew_if_ne (M := mX10_faultOfBreak) (tgt := 16) dX10_faultOfBreak_11 rfl (fun _ => ?_) (fun h => absurd h (nI_n0 (by omega) (by omega)))
      refine ew_aload_n (M := mX10_faultOfBreak) dX10_faultOfBreak_16 rfl (Or.inr (Or.inl ⟨_, rfl⟩)) ?_
      refine ew_callV (M := mX10_faultOfBreak) dX10_faultOfBreak_17 vX10_86 (by repeat (first | with_reducible assumption | refine ex_eq ?_ | refine ex_ne ?_ (by omega) | exact ex_lt (by with_reducible assumption) | rw [List.length_set] | assumption)) rfl (ms_isShort hS hb') rfl (Nat.le_of_ble_eq_true rfl) ⟨Nat.le_refl _, Nat.le_refl _⟩ rfl (fun H17 r17 q17 => ?_)
      obtain ⟨rfl, rfl⟩ := q17
      rw [if_neg h2]
      refine ew_if_eq (M := mX10_faultOfBreak) (tgt := 27) dX10_faultOfBreak_20 rfl (fun _ => ?_) (fun h => absurd (by decide) h)
      refine ew_aload_n (M := mX10_faultOfBreak) dX10_faultOfBreak_27 rfl (Or.inr (Or.inl ⟨_, rfl⟩)) ?_
      refine ew_get (M := mX10_faultOfBreak) dX10_faultOfBreak_28 fX10_74 (by repeat (first | with_reducible assumption | refine ex_eq ?_ | refine ex_ne ?_ (by omega) | exact ex_lt (by with_reducible assumption) | rw [List.length_set] | assumption)) (by rfl) ?_
      refine ew_bipush (M := mX10_faultOfBreak) dX10_faultOfBreak_31 (v := nI 7) (by decide) ?_
      refine ew_icmp_ne (M := mX10_faultOfBreak) (tgt := 40) dX10_faultOfBreak_33 rfl (fun c33 => ?_) (fun c33 => ?_)
      · rw [nI_eq (by omega) (by decide)] at c33
        rw [if_neg c33]
        refine ew_iconst (M := mX10_faultOfBreak) dX10_faultOfBreak_40 (v := nI 0) (by decide) ?_
        refine ew_iret (M := mX10_faultOfBreak) dX10_faultOfBreak_41 rfl (by first | rfl | decide) (Nat.le_refl _) (Nat.le_refl _) ?_
        exact ⟨rfl, rfl⟩
      · rw [nI_eq (by omega) (by decide)] at c33
        rw [if_pos c33]
        refine ew_iconst (M := mX10_faultOfBreak) dX10_faultOfBreak_36 (v := nI 3) (by decide) ?_
        refine ew_goto (M := mX10_faultOfBreak) (tgt := 41) dX10_faultOfBreak_37 rfl ?_
        refine ew_iret (M := mX10_faultOfBreak) dX10_faultOfBreak_41 rfl (by first | rfl | decide) (Nat.le_refl _) (Nat.le_refl _) ?_
        exact ⟨rfl, rfl⟩
theorem ms_faultOf {d : Nat} {H : ex_H} {S : SS} {mn : Int32} {C N : Nat → Int32} {r c wd hf : Nat} (hS : mo_at H S (rdR r c wd hf) mn C N) (hb : rdb r c wd hf) (hok : c ≤ rdW r wd) {x : Nat} (hx : x < 256) : ex_Met mX10_faultOf (d + 2) 0 0 H [.ref 86, .int (nI x)] (ex_r H (.int (nI (rd_f r c wd hf x)))) := by
  have hb' := hb
  have a1 := hS.1
  obtain ⟨b1, b2, b3, b4⟩ := hb
  have b5 := mh_le b4
  unfold rd_f
  by_cases h47 : x = 47
  · subst h47
    rw [if_pos rfl]
    refine ex_meth [(0, .ref 86), (1, .int (nI 47))] rfl rfl rfl (fun b => Nat.le_of_ble_eq_true rfl) ?_
    refine ew_iload_n (M := mX10_faultOf) dX10_faultOf_0 rfl ?_
    refine ew_bipush (M := mX10_faultOf) dX10_faultOf_1 (v := nI 47) (by decide) ?_
    refine ew_icmp_ne (M := mX10_faultOf) (tgt := 11) dX10_faultOf_3 rfl (fun h => absurd rfl h) (fun _ => ?_)
    refine ew_aload_n (M := mX10_faultOf) dX10_faultOf_6 rfl (Or.inr (Or.inl ⟨_, rfl⟩)) ?_
    refine ew_callV (M := mX10_faultOf) dX10_faultOf_7 vX10_90 (by repeat (first | with_reducible assumption | refine ex_eq ?_ | refine ex_ne ?_ (by omega) | exact ex_lt (by with_reducible assumption) | rw [List.length_set] | assumption)) rfl (ms_faultOfBreak hS hb') rfl (Nat.le_of_ble_eq_true rfl) ⟨Nat.le_refl _, Nat.le_refl _⟩ rfl (fun H7 r7 q7 => ?_)
    obtain ⟨rfl, rfl⟩ := q7
    refine ew_iret (M := mX10_faultOf) dX10_faultOf_10 rfl (by first | rfl | decide) (Nat.le_refl _) (Nat.le_refl _) ?_
    exact ⟨rfl, rfl⟩
  · rw [if_neg h47]
    have n47 : ¬ nI x = nI 47 := fun e => h47 ((nI_eq (by omega) (by decide)).mp e)
    have hr0 : r = 0 → rdW r wd = 10 := fun e => if_pos e
    have hr1 : 0 < r → rdW r wd = wd := fun e => if_neg (by omega)
    have hr2 : c = 10 → ¬ c < rdW r wd := fun e => by
      rcases Nat.eq_zero_or_pos r with e | e
      · have := hr0 e; omega
      · have := hr1 e; omega
    by_cases h45 : x = 45
    · subst h45
      rw [sg_45.1]
      dsimp only
      by_cases h0 : hf = 0
      · subst h0
        rw [if_pos rfl]
        refine ex_meth [(0, .ref 86), (1, .int (nI 45))] rfl rfl rfl (fun b => Nat.le_of_ble_eq_true rfl) ?_
        refine ew_iload_n (M := mX10_faultOf) dX10_faultOf_0 rfl ?_
        refine ew_bipush (M := mX10_faultOf) dX10_faultOf_1 (v := nI 47) (by decide) ?_
        refine ew_icmp_ne (M := mX10_faultOf) (tgt := 11) dX10_faultOf_3 rfl (fun _ => ?_) (fun h => absurd h n47)
        refine ew_iload_n (M := mX10_faultOf) dX10_faultOf_11 rfl ?_
        refine ew_bipush (M := mX10_faultOf) dX10_faultOf_12 (v := nI 45) (by decide) ?_
        refine ew_icmp_ne (M := mX10_faultOf) (tgt := 21) dX10_faultOf_14 rfl (fun h => absurd rfl h) (fun _ => ?_)
        refine ew_iconst (M := mX10_faultOf) dX10_faultOf_17 (v := nI 1) (by decide) ?_
        refine ew_goto (M := mX10_faultOf) (tgt := 22) dX10_faultOf_18 rfl ?_
        refine ew_istore_n (M := mX10_faultOf) dX10_faultOf_22 (by decide) rfl ?_
        refine ew_iload_n (M := mX10_faultOf) dX10_faultOf_23 rfl ?_
        refine ew_if_ne (M := mX10_faultOf) (tgt := 36) dX10_faultOf_24 rfl (fun _ => ?_) (fun h => absurd h (by decide))
        refine ew_aload_n (M := mX10_faultOf) dX10_faultOf_36 rfl (Or.inr (Or.inl ⟨_, rfl⟩)) ?_
        refine ew_get (M := mX10_faultOf) dX10_faultOf_37 fX10_83 (by repeat (first | with_reducible assumption | refine ex_eq ?_ | refine ex_ne ?_ (by omega) | exact ex_lt (by with_reducible assumption) | rw [List.length_set] | assumption)) (by rfl) ?_
        refine ew_if_le (M := mX10_faultOf) (tgt := 67) dX10_faultOf_40 rfl (fun _ => ?_) (fun h => absurd (show nI (mh 0) ≤ 0 by decide) h)
        refine ew_aload_n (M := mX10_faultOf) dX10_faultOf_67 rfl (Or.inr (Or.inl ⟨_, rfl⟩)) ?_
        refine ew_get (M := mX10_faultOf) dX10_faultOf_68 fX10_77 (by repeat (first | with_reducible assumption | refine ex_eq ?_ | refine ex_ne ?_ (by omega) | exact ex_lt (by with_reducible assumption) | rw [List.length_set] | assumption)) (by rfl) ?_
        refine ew_bipush (M := mX10_faultOf) dX10_faultOf_71 (v := nI 10) (by decide) ?_
        refine ew_icmp_eq (M := mX10_faultOf) (tgt := 94) dX10_faultOf_73 rfl (fun c73 => ?_) (fun c73 => ?_)
        · rw [nI_eq (by omega) (by decide)] at c73
          rw [if_neg (hr2 c73)]
          refine ew_iconst (M := mX10_faultOf) dX10_faultOf_94 (v := nI 2) (by decide) ?_
          refine ew_goto (M := mX10_faultOf) (tgt := 99) dX10_faultOf_95 rfl ?_
          refine ew_iret (M := mX10_faultOf) dX10_faultOf_99 rfl (by first | rfl | decide) (Nat.le_refl _) (Nat.le_refl _) ?_
          exact ⟨rfl, rfl⟩
        · rw [nI_eq (by omega) (by decide)] at c73
          refine ew_aload_n (M := mX10_faultOf) dX10_faultOf_76 rfl (Or.inr (Or.inl ⟨_, rfl⟩)) ?_
          refine ew_get (M := mX10_faultOf) dX10_faultOf_77 fX10_74 (by repeat (first | with_reducible assumption | refine ex_eq ?_ | refine ex_ne ?_ (by omega) | exact ex_lt (by with_reducible assumption) | rw [List.length_set] | assumption)) (by rfl) ?_
          refine ew_if_le (M := mX10_faultOf) (tgt := 98) dX10_faultOf_80 rfl (fun c80 => ?_) (fun c80 => ?_)
          · rw [← nI_0, nI_leI (by omega) (by omega)] at c80
            rw [if_pos (by have := hr0 (by omega); omega)]
            refine ew_iconst (M := mX10_faultOf) dX10_faultOf_98 (v := nI 0) (by decide) ?_
            refine ew_iret (M := mX10_faultOf) dX10_faultOf_99 rfl (by first | rfl | decide) (Nat.le_refl _) (Nat.le_refl _) ?_
            exact ⟨rfl, rfl⟩
          · rw [← nI_0, nI_leI (by omega) (by omega)] at c80
            refine ew_aload_n (M := mX10_faultOf) dX10_faultOf_83 rfl (Or.inr (Or.inl ⟨_, rfl⟩)) ?_
            refine ew_get (M := mX10_faultOf) dX10_faultOf_84 fX10_77 (by repeat (first | with_reducible assumption | refine ex_eq ?_ | refine ex_ne ?_ (by omega) | exact ex_lt (by with_reducible assumption) | rw [List.length_set] | assumption)) (by rfl) ?_
            refine ew_aload_n (M := mX10_faultOf) dX10_faultOf_87 rfl (Or.inr (Or.inl ⟨_, rfl⟩)) ?_
            refine ew_get (M := mX10_faultOf) dX10_faultOf_88 fX10_80 (by repeat (first | with_reducible assumption | refine ex_eq ?_ | refine ex_ne ?_ (by omega) | exact ex_lt (by with_reducible assumption) | rw [List.length_set] | assumption)) (by rfl) ?_
            refine ew_icmp_ne (M := mX10_faultOf) (tgt := 98) dX10_faultOf_91 rfl (fun c91 => ?_) (fun c91 => ?_)
            · rw [nI_eq (by omega) (by omega)] at c91
              rw [if_pos (by have := hr1 (by omega); omega)]
              refine ew_iconst (M := mX10_faultOf) dX10_faultOf_98 (v := nI 0) (by decide) ?_
              refine ew_iret (M := mX10_faultOf) dX10_faultOf_99 rfl (by first | rfl | decide) (Nat.le_refl _) (Nat.le_refl _) ?_
              exact ⟨rfl, rfl⟩
            · rw [nI_eq (by omega) (by omega)] at c91
              rw [if_neg (by have := hr1 (by omega); omega)]
              refine ew_iconst (M := mX10_faultOf) dX10_faultOf_94 (v := nI 2) (by decide) ?_
              refine ew_goto (M := mX10_faultOf) (tgt := 99) dX10_faultOf_95 rfl ?_
              refine ew_iret (M := mX10_faultOf) dX10_faultOf_99 rfl (by first | rfl | decide) (Nat.le_refl _) (Nat.le_refl _) ?_
              exact ⟨rfl, rfl⟩
      · have hp : 0 < mh hf := Nat.pos_of_ne_zero (fun e => h0 (mh_z.mp e))
        rw [if_neg h0]
        by_cases h17 : hf = 17
        · rw [if_pos (by omega)]
          have e15 : mh hf = 15 := (mh_15 b4).mpr h17
          refine ex_meth [(0, .ref 86), (1, .int (nI 45))] rfl rfl rfl (fun b => Nat.le_of_ble_eq_true rfl) ?_
          refine ew_iload_n (M := mX10_faultOf) dX10_faultOf_0 rfl ?_
          refine ew_bipush (M := mX10_faultOf) dX10_faultOf_1 (v := nI 47) (by decide) ?_
          refine ew_icmp_ne (M := mX10_faultOf) (tgt := 11) dX10_faultOf_3 rfl (fun _ => ?_) (fun h => absurd h n47)
          refine ew_iload_n (M := mX10_faultOf) dX10_faultOf_11 rfl ?_
          refine ew_bipush (M := mX10_faultOf) dX10_faultOf_12 (v := nI 45) (by decide) ?_
          refine ew_icmp_ne (M := mX10_faultOf) (tgt := 21) dX10_faultOf_14 rfl (fun h => absurd rfl h) (fun _ => ?_)
          refine ew_iconst (M := mX10_faultOf) dX10_faultOf_17 (v := nI 1) (by decide) ?_
          refine ew_goto (M := mX10_faultOf) (tgt := 22) dX10_faultOf_18 rfl ?_
          refine ew_istore_n (M := mX10_faultOf) dX10_faultOf_22 (by decide) rfl ?_
          refine ew_iload_n (M := mX10_faultOf) dX10_faultOf_23 rfl ?_
          refine ew_if_ne (M := mX10_faultOf) (tgt := 36) dX10_faultOf_24 rfl (fun _ => ?_) (fun h => absurd h (by decide))
          refine ew_aload_n (M := mX10_faultOf) dX10_faultOf_36 rfl (Or.inr (Or.inl ⟨_, rfl⟩)) ?_
          refine ew_get (M := mX10_faultOf) dX10_faultOf_37 fX10_83 (by repeat (first | with_reducible assumption | refine ex_eq ?_ | refine ex_ne ?_ (by omega) | exact ex_lt (by with_reducible assumption) | rw [List.length_set] | assumption)) (by rfl) ?_
          refine ew_if_le (M := mX10_faultOf) (tgt := 67) dX10_faultOf_40 rfl (fun h => absurd h (nI_nle hp (by omega))) (fun _ => ?_)
          refine ew_aload_n (M := mX10_faultOf) dX10_faultOf_43 rfl (Or.inr (Or.inl ⟨_, rfl⟩)) ?_
          refine ew_get (M := mX10_faultOf) dX10_faultOf_44 fX10_83 (by repeat (first | with_reducible assumption | refine ex_eq ?_ | refine ex_ne ?_ (by omega) | exact ex_lt (by with_reducible assumption) | rw [List.length_set] | assumption)) (by rfl) ?_
          refine ew_bipush (M := mX10_faultOf) dX10_faultOf_47 (v := nI 15) (by decide) ?_
          refine ew_icmp_ne (M := mX10_faultOf) (tgt := 56) dX10_faultOf_49 rfl (fun h => absurd (by show nI (mh hf) = nI 15; rw [e15]) h) (fun _ => ?_)
          refine ew_iconst (M := mX10_faultOf) dX10_faultOf_52 (v := nI 1) (by decide) ?_
          refine ew_goto (M := mX10_faultOf) (tgt := 57) dX10_faultOf_53 rfl ?_
          refine ew_iload_n (M := mX10_faultOf) dX10_faultOf_57 rfl ?_
          refine ew_icmp_ne (M := mX10_faultOf) (tgt := 65) dX10_faultOf_58 rfl (fun h => absurd rfl h) (fun _ => ?_)
          refine ew_iconst (M := mX10_faultOf) dX10_faultOf_61 (v := nI 0) (by decide) ?_
          refine ew_goto (M := mX10_faultOf) (tgt := 66) dX10_faultOf_62 rfl ?_
          refine ew_iret (M := mX10_faultOf) dX10_faultOf_66 rfl (by first | rfl | decide) (Nat.le_refl _) (Nat.le_refl _) ?_
          exact ⟨rfl, rfl⟩
        · rw [if_neg (by omega)]
          have e15 : ¬ mh hf = 15 := fun e => h17 ((mh_15 b4).mp e)
          refine ex_meth [(0, .ref 86), (1, .int (nI 45))] rfl rfl rfl (fun b => Nat.le_of_ble_eq_true rfl) ?_
          refine ew_iload_n (M := mX10_faultOf) dX10_faultOf_0 rfl ?_
          refine ew_bipush (M := mX10_faultOf) dX10_faultOf_1 (v := nI 47) (by decide) ?_
          refine ew_icmp_ne (M := mX10_faultOf) (tgt := 11) dX10_faultOf_3 rfl (fun _ => ?_) (fun h => absurd h n47)
          refine ew_iload_n (M := mX10_faultOf) dX10_faultOf_11 rfl ?_
          refine ew_bipush (M := mX10_faultOf) dX10_faultOf_12 (v := nI 45) (by decide) ?_
          refine ew_icmp_ne (M := mX10_faultOf) (tgt := 21) dX10_faultOf_14 rfl (fun h => absurd rfl h) (fun _ => ?_)
          refine ew_iconst (M := mX10_faultOf) dX10_faultOf_17 (v := nI 1) (by decide) ?_
          refine ew_goto (M := mX10_faultOf) (tgt := 22) dX10_faultOf_18 rfl ?_
          refine ew_istore_n (M := mX10_faultOf) dX10_faultOf_22 (by decide) rfl ?_
          refine ew_iload_n (M := mX10_faultOf) dX10_faultOf_23 rfl ?_
          refine ew_if_ne (M := mX10_faultOf) (tgt := 36) dX10_faultOf_24 rfl (fun _ => ?_) (fun h => absurd h (by decide))
          refine ew_aload_n (M := mX10_faultOf) dX10_faultOf_36 rfl (Or.inr (Or.inl ⟨_, rfl⟩)) ?_
          refine ew_get (M := mX10_faultOf) dX10_faultOf_37 fX10_83 (by repeat (first | with_reducible assumption | refine ex_eq ?_ | refine ex_ne ?_ (by omega) | exact ex_lt (by with_reducible assumption) | rw [List.length_set] | assumption)) (by rfl) ?_
          refine ew_if_le (M := mX10_faultOf) (tgt := 67) dX10_faultOf_40 rfl (fun h => absurd h (nI_nle hp (by omega))) (fun _ => ?_)
          refine ew_aload_n (M := mX10_faultOf) dX10_faultOf_43 rfl (Or.inr (Or.inl ⟨_, rfl⟩)) ?_
          refine ew_get (M := mX10_faultOf) dX10_faultOf_44 fX10_83 (by repeat (first | with_reducible assumption | refine ex_eq ?_ | refine ex_ne ?_ (by omega) | exact ex_lt (by with_reducible assumption) | rw [List.length_set] | assumption)) (by rfl) ?_
          refine ew_bipush (M := mX10_faultOf) dX10_faultOf_47 (v := nI 15) (by decide) ?_
          refine ew_icmp_ne (M := mX10_faultOf) (tgt := 56) dX10_faultOf_49 rfl (fun _ => ?_) (fun h => absurd h (fun e => e15 ((nI_eq (by omega) (by decide)).mp e)))
          refine ew_iconst (M := mX10_faultOf) dX10_faultOf_56 (v := nI 0) (by decide) ?_
          refine ew_iload_n (M := mX10_faultOf) dX10_faultOf_57 rfl ?_
          refine ew_icmp_ne (M := mX10_faultOf) (tgt := 65) dX10_faultOf_58 rfl (fun _ => ?_) (fun h => absurd h (by decide))
          refine ew_iconst (M := mX10_faultOf) dX10_faultOf_65 (v := nI 1) (by decide) ?_
          refine ew_iret (M := mX10_faultOf) dX10_faultOf_66 rfl (by first | rfl | decide) (Nat.le_refl _) (Nat.le_refl _) ?_
          exact ⟨rfl, rfl⟩
    · obtain ⟨hfg, hs16⟩ := fg_sg h45
      have n45 : ¬ nI x = nI 45 := fun e => h45 ((nI_eq (by omega) (by decide)).mp e)
      cases hsg : sg x with
      | none =>
        rw [hsg] at hfg
        dsimp only
        refine ex_meth [(0, .ref 86), (1, .int (nI x))] rfl rfl rfl (fun b => Nat.le_of_ble_eq_true rfl) ?_
        refine ew_iload_n (M := mX10_faultOf) dX10_faultOf_0 rfl ?_
        refine ew_bipush (M := mX10_faultOf) dX10_faultOf_1 (v := nI 47) (by decide) ?_
        refine ew_icmp_ne (M := mX10_faultOf) (tgt := 11) dX10_faultOf_3 rfl (fun _ => ?_) (fun h => absurd h n47)
        refine ew_iload_n (M := mX10_faultOf) dX10_faultOf_11 rfl ?_
        refine ew_bipush (M := mX10_faultOf) dX10_faultOf_12 (v := nI 45) (by decide) ?_
        refine ew_icmp_ne (M := mX10_faultOf) (tgt := 21) dX10_faultOf_14 rfl (fun _ => ?_) (fun h => absurd h n45)
        refine ew_iconst (M := mX10_faultOf) dX10_faultOf_21 (v := nI 0) (by decide) ?_
        refine ew_istore_n (M := mX10_faultOf) dX10_faultOf_22 (by decide) rfl ?_
        refine ew_iload_n (M := mX10_faultOf) dX10_faultOf_23 rfl ?_
        refine ew_if_ne (M := mX10_faultOf) (tgt := 36) dX10_faultOf_24 rfl (fun h => absurd rfl h) (fun _ => ?_)
        refine ew_iload_n (M := mX10_faultOf) dX10_faultOf_27 rfl ?_
        refine ew_callS (M := mX10_faultOf) dX10_faultOf_28 vX10_94 (ms_figure hx) rfl (Nat.le_of_ble_eq_true rfl) ⟨Nat.le_refl _, Nat.le_refl _⟩ rfl (fun H28 r28 q28 => ?_)
        obtain ⟨rfl, rfl⟩ := q28
        rw [hfg]
        refine ew_if_ge (M := mX10_faultOf) (tgt := 36) dX10_faultOf_31 rfl (fun h => absurd h (by decide)) (fun _ => ?_)
        refine ew_iconst (M := mX10_faultOf) dX10_faultOf_34 (v := nI 1) (by decide) ?_
        refine ew_iret (M := mX10_faultOf) dX10_faultOf_35 rfl (by first | rfl | decide) (Nat.le_refl _) (Nat.le_refl _) ?_
        exact ⟨rfl, rfl⟩
      | some s =>
        have hs := hs16 s hsg
        rw [hsg] at hfg
        change fgI x = nI s at hfg
        dsimp only
        by_cases h0 : hf = 0
        · subst h0
          rw [if_pos rfl]
          refine ex_meth [(0, .ref 86), (1, .int (nI x))] rfl rfl rfl (fun b => Nat.le_of_ble_eq_true rfl) ?_
          refine ew_iload_n (M := mX10_faultOf) dX10_faultOf_0 rfl ?_
          refine ew_bipush (M := mX10_faultOf) dX10_faultOf_1 (v := nI 47) (by decide) ?_
          refine ew_icmp_ne (M := mX10_faultOf) (tgt := 11) dX10_faultOf_3 rfl (fun _ => ?_) (fun h => absurd h n47)
          refine ew_iload_n (M := mX10_faultOf) dX10_faultOf_11 rfl ?_
          refine ew_bipush (M := mX10_faultOf) dX10_faultOf_12 (v := nI 45) (by decide) ?_
          refine ew_icmp_ne (M := mX10_faultOf) (tgt := 21) dX10_faultOf_14 rfl (fun _ => ?_) (fun h => absurd h n45)
          refine ew_iconst (M := mX10_faultOf) dX10_faultOf_21 (v := nI 0) (by decide) ?_
          refine ew_istore_n (M := mX10_faultOf) dX10_faultOf_22 (by decide) rfl ?_
          refine ew_iload_n (M := mX10_faultOf) dX10_faultOf_23 rfl ?_
          refine ew_if_ne (M := mX10_faultOf) (tgt := 36) dX10_faultOf_24 rfl (fun h => absurd rfl h) (fun _ => ?_)
          refine ew_iload_n (M := mX10_faultOf) dX10_faultOf_27 rfl ?_
          refine ew_callS (M := mX10_faultOf) dX10_faultOf_28 vX10_94 (ms_figure hx) rfl (Nat.le_of_ble_eq_true rfl) ⟨Nat.le_refl _, Nat.le_refl _⟩ rfl (fun H28 r28 q28 => ?_)
          obtain ⟨rfl, rfl⟩ := q28
          rw [hfg]
          refine ew_if_ge (M := mX10_faultOf) (tgt := 36) dX10_faultOf_31 rfl (fun _ => ?_) (fun h => absurd (nI_pos' (by omega)) h)
          refine ew_aload_n (M := mX10_faultOf) dX10_faultOf_36 rfl (Or.inr (Or.inl ⟨_, rfl⟩)) ?_
          refine ew_get (M := mX10_faultOf) dX10_faultOf_37 fX10_83 (by repeat (first | with_reducible assumption | refine ex_eq ?_ | refine ex_ne ?_ (by omega) | exact ex_lt (by with_reducible assumption) | rw [List.length_set] | assumption)) (by rfl) ?_
          refine ew_if_le (M := mX10_faultOf) (tgt := 67) dX10_faultOf_40 rfl (fun _ => ?_) (fun h => absurd (show nI (mh 0) ≤ 0 by decide) h)
          refine ew_aload_n (M := mX10_faultOf) dX10_faultOf_67 rfl (Or.inr (Or.inl ⟨_, rfl⟩)) ?_
          refine ew_get (M := mX10_faultOf) dX10_faultOf_68 fX10_77 (by repeat (first | with_reducible assumption | refine ex_eq ?_ | refine ex_ne ?_ (by omega) | exact ex_lt (by with_reducible assumption) | rw [List.length_set] | assumption)) (by rfl) ?_
          refine ew_bipush (M := mX10_faultOf) dX10_faultOf_71 (v := nI 10) (by decide) ?_
          refine ew_icmp_eq (M := mX10_faultOf) (tgt := 94) dX10_faultOf_73 rfl (fun c73 => ?_) (fun c73 => ?_)
          · rw [nI_eq (by omega) (by decide)] at c73
            rw [if_neg (hr2 c73)]
            refine ew_iconst (M := mX10_faultOf) dX10_faultOf_94 (v := nI 2) (by decide) ?_
            refine ew_goto (M := mX10_faultOf) (tgt := 99) dX10_faultOf_95 rfl ?_
            refine ew_iret (M := mX10_faultOf) dX10_faultOf_99 rfl (by first | rfl | decide) (Nat.le_refl _) (Nat.le_refl _) ?_
            exact ⟨rfl, rfl⟩
          · rw [nI_eq (by omega) (by decide)] at c73
            refine ew_aload_n (M := mX10_faultOf) dX10_faultOf_76 rfl (Or.inr (Or.inl ⟨_, rfl⟩)) ?_
            refine ew_get (M := mX10_faultOf) dX10_faultOf_77 fX10_74 (by repeat (first | with_reducible assumption | refine ex_eq ?_ | refine ex_ne ?_ (by omega) | exact ex_lt (by with_reducible assumption) | rw [List.length_set] | assumption)) (by rfl) ?_
            refine ew_if_le (M := mX10_faultOf) (tgt := 98) dX10_faultOf_80 rfl (fun c80 => ?_) (fun c80 => ?_)
            · rw [← nI_0, nI_leI (by omega) (by omega)] at c80
              rw [if_pos (by have := hr0 (by omega); omega)]
              refine ew_iconst (M := mX10_faultOf) dX10_faultOf_98 (v := nI 0) (by decide) ?_
              refine ew_iret (M := mX10_faultOf) dX10_faultOf_99 rfl (by first | rfl | decide) (Nat.le_refl _) (Nat.le_refl _) ?_
              exact ⟨rfl, rfl⟩
            · rw [← nI_0, nI_leI (by omega) (by omega)] at c80
              refine ew_aload_n (M := mX10_faultOf) dX10_faultOf_83 rfl (Or.inr (Or.inl ⟨_, rfl⟩)) ?_
              refine ew_get (M := mX10_faultOf) dX10_faultOf_84 fX10_77 (by repeat (first | with_reducible assumption | refine ex_eq ?_ | refine ex_ne ?_ (by omega) | exact ex_lt (by with_reducible assumption) | rw [List.length_set] | assumption)) (by rfl) ?_
              refine ew_aload_n (M := mX10_faultOf) dX10_faultOf_87 rfl (Or.inr (Or.inl ⟨_, rfl⟩)) ?_
              refine ew_get (M := mX10_faultOf) dX10_faultOf_88 fX10_80 (by repeat (first | with_reducible assumption | refine ex_eq ?_ | refine ex_ne ?_ (by omega) | exact ex_lt (by with_reducible assumption) | rw [List.length_set] | assumption)) (by rfl) ?_
              refine ew_icmp_ne (M := mX10_faultOf) (tgt := 98) dX10_faultOf_91 rfl (fun c91 => ?_) (fun c91 => ?_)
              · rw [nI_eq (by omega) (by omega)] at c91
                rw [if_pos (by have := hr1 (by omega); omega)]
                refine ew_iconst (M := mX10_faultOf) dX10_faultOf_98 (v := nI 0) (by decide) ?_
                refine ew_iret (M := mX10_faultOf) dX10_faultOf_99 rfl (by first | rfl | decide) (Nat.le_refl _) (Nat.le_refl _) ?_
                exact ⟨rfl, rfl⟩
              · rw [nI_eq (by omega) (by omega)] at c91
                rw [if_neg (by have := hr1 (by omega); omega)]
                refine ew_iconst (M := mX10_faultOf) dX10_faultOf_94 (v := nI 2) (by decide) ?_
                refine ew_goto (M := mX10_faultOf) (tgt := 99) dX10_faultOf_95 rfl ?_
                refine ew_iret (M := mX10_faultOf) dX10_faultOf_99 rfl (by first | rfl | decide) (Nat.le_refl _) (Nat.le_refl _) ?_
                exact ⟨rfl, rfl⟩
        · have hp : 0 < mh hf := Nat.pos_of_ne_zero (fun e => h0 (mh_z.mp e))
          rw [if_neg h0]
          by_cases h17 : hf = 17
          · rw [if_neg (by omega)]
            have e15 : mh hf = 15 := (mh_15 b4).mpr h17
            refine ex_meth [(0, .ref 86), (1, .int (nI x))] rfl rfl rfl (fun b => Nat.le_of_ble_eq_true rfl) ?_
            refine ew_iload_n (M := mX10_faultOf) dX10_faultOf_0 rfl ?_
            refine ew_bipush (M := mX10_faultOf) dX10_faultOf_1 (v := nI 47) (by decide) ?_
            refine ew_icmp_ne (M := mX10_faultOf) (tgt := 11) dX10_faultOf_3 rfl (fun _ => ?_) (fun h => absurd h n47)
            refine ew_iload_n (M := mX10_faultOf) dX10_faultOf_11 rfl ?_
            refine ew_bipush (M := mX10_faultOf) dX10_faultOf_12 (v := nI 45) (by decide) ?_
            refine ew_icmp_ne (M := mX10_faultOf) (tgt := 21) dX10_faultOf_14 rfl (fun _ => ?_) (fun h => absurd h n45)
            refine ew_iconst (M := mX10_faultOf) dX10_faultOf_21 (v := nI 0) (by decide) ?_
            refine ew_istore_n (M := mX10_faultOf) dX10_faultOf_22 (by decide) rfl ?_
            refine ew_iload_n (M := mX10_faultOf) dX10_faultOf_23 rfl ?_
            refine ew_if_ne (M := mX10_faultOf) (tgt := 36) dX10_faultOf_24 rfl (fun h => absurd rfl h) (fun _ => ?_)
            refine ew_iload_n (M := mX10_faultOf) dX10_faultOf_27 rfl ?_
            refine ew_callS (M := mX10_faultOf) dX10_faultOf_28 vX10_94 (ms_figure hx) rfl (Nat.le_of_ble_eq_true rfl) ⟨Nat.le_refl _, Nat.le_refl _⟩ rfl (fun H28 r28 q28 => ?_)
            obtain ⟨rfl, rfl⟩ := q28
            rw [hfg]
            refine ew_if_ge (M := mX10_faultOf) (tgt := 36) dX10_faultOf_31 rfl (fun _ => ?_) (fun h => absurd (nI_pos' (by omega)) h)
            refine ew_aload_n (M := mX10_faultOf) dX10_faultOf_36 rfl (Or.inr (Or.inl ⟨_, rfl⟩)) ?_
            refine ew_get (M := mX10_faultOf) dX10_faultOf_37 fX10_83 (by repeat (first | with_reducible assumption | refine ex_eq ?_ | refine ex_ne ?_ (by omega) | exact ex_lt (by with_reducible assumption) | rw [List.length_set] | assumption)) (by rfl) ?_
            refine ew_if_le (M := mX10_faultOf) (tgt := 67) dX10_faultOf_40 rfl (fun h => absurd h (nI_nle hp (by omega))) (fun _ => ?_)
            refine ew_aload_n (M := mX10_faultOf) dX10_faultOf_43 rfl (Or.inr (Or.inl ⟨_, rfl⟩)) ?_
            refine ew_get (M := mX10_faultOf) dX10_faultOf_44 fX10_83 (by repeat (first | with_reducible assumption | refine ex_eq ?_ | refine ex_ne ?_ (by omega) | exact ex_lt (by with_reducible assumption) | rw [List.length_set] | assumption)) (by rfl) ?_
            refine ew_bipush (M := mX10_faultOf) dX10_faultOf_47 (v := nI 15) (by decide) ?_
            refine ew_icmp_ne (M := mX10_faultOf) (tgt := 56) dX10_faultOf_49 rfl (fun h => absurd (by show nI (mh hf) = nI 15; rw [e15]) h) (fun _ => ?_)
            refine ew_iconst (M := mX10_faultOf) dX10_faultOf_52 (v := nI 1) (by decide) ?_
            refine ew_goto (M := mX10_faultOf) (tgt := 57) dX10_faultOf_53 rfl ?_
            refine ew_iload_n (M := mX10_faultOf) dX10_faultOf_57 rfl ?_
            refine ew_icmp_ne (M := mX10_faultOf) (tgt := 65) dX10_faultOf_58 rfl (fun _ => ?_) (fun h => absurd h (by decide))
            refine ew_iconst (M := mX10_faultOf) dX10_faultOf_65 (v := nI 1) (by decide) ?_
            refine ew_iret (M := mX10_faultOf) dX10_faultOf_66 rfl (by first | rfl | decide) (Nat.le_refl _) (Nat.le_refl _) ?_
            exact ⟨rfl, rfl⟩
          · rw [if_pos (by omega)]
            have e15 : ¬ mh hf = 15 := fun e => h17 ((mh_15 b4).mp e)
            refine ex_meth [(0, .ref 86), (1, .int (nI x))] rfl rfl rfl (fun b => Nat.le_of_ble_eq_true rfl) ?_
            refine ew_iload_n (M := mX10_faultOf) dX10_faultOf_0 rfl ?_
            refine ew_bipush (M := mX10_faultOf) dX10_faultOf_1 (v := nI 47) (by decide) ?_
            refine ew_icmp_ne (M := mX10_faultOf) (tgt := 11) dX10_faultOf_3 rfl (fun _ => ?_) (fun h => absurd h n47)
            refine ew_iload_n (M := mX10_faultOf) dX10_faultOf_11 rfl ?_
            refine ew_bipush (M := mX10_faultOf) dX10_faultOf_12 (v := nI 45) (by decide) ?_
            refine ew_icmp_ne (M := mX10_faultOf) (tgt := 21) dX10_faultOf_14 rfl (fun _ => ?_) (fun h => absurd h n45)
            refine ew_iconst (M := mX10_faultOf) dX10_faultOf_21 (v := nI 0) (by decide) ?_
            refine ew_istore_n (M := mX10_faultOf) dX10_faultOf_22 (by decide) rfl ?_
            refine ew_iload_n (M := mX10_faultOf) dX10_faultOf_23 rfl ?_
            refine ew_if_ne (M := mX10_faultOf) (tgt := 36) dX10_faultOf_24 rfl (fun h => absurd rfl h) (fun _ => ?_)
            refine ew_iload_n (M := mX10_faultOf) dX10_faultOf_27 rfl ?_
            refine ew_callS (M := mX10_faultOf) dX10_faultOf_28 vX10_94 (ms_figure hx) rfl (Nat.le_of_ble_eq_true rfl) ⟨Nat.le_refl _, Nat.le_refl _⟩ rfl (fun H28 r28 q28 => ?_)
            obtain ⟨rfl, rfl⟩ := q28
            rw [hfg]
            refine ew_if_ge (M := mX10_faultOf) (tgt := 36) dX10_faultOf_31 rfl (fun _ => ?_) (fun h => absurd (nI_pos' (by omega)) h)
            refine ew_aload_n (M := mX10_faultOf) dX10_faultOf_36 rfl (Or.inr (Or.inl ⟨_, rfl⟩)) ?_
            refine ew_get (M := mX10_faultOf) dX10_faultOf_37 fX10_83 (by repeat (first | with_reducible assumption | refine ex_eq ?_ | refine ex_ne ?_ (by omega) | exact ex_lt (by with_reducible assumption) | rw [List.length_set] | assumption)) (by rfl) ?_
            refine ew_if_le (M := mX10_faultOf) (tgt := 67) dX10_faultOf_40 rfl (fun h => absurd h (nI_nle hp (by omega))) (fun _ => ?_)
            refine ew_aload_n (M := mX10_faultOf) dX10_faultOf_43 rfl (Or.inr (Or.inl ⟨_, rfl⟩)) ?_
            refine ew_get (M := mX10_faultOf) dX10_faultOf_44 fX10_83 (by repeat (first | with_reducible assumption | refine ex_eq ?_ | refine ex_ne ?_ (by omega) | exact ex_lt (by with_reducible assumption) | rw [List.length_set] | assumption)) (by rfl) ?_
            refine ew_bipush (M := mX10_faultOf) dX10_faultOf_47 (v := nI 15) (by decide) ?_
            refine ew_icmp_ne (M := mX10_faultOf) (tgt := 56) dX10_faultOf_49 rfl (fun _ => ?_) (fun h => absurd h (fun e => e15 ((nI_eq (by omega) (by decide)).mp e)))
            refine ew_iconst (M := mX10_faultOf) dX10_faultOf_56 (v := nI 0) (by decide) ?_
            refine ew_iload_n (M := mX10_faultOf) dX10_faultOf_57 rfl ?_
            refine ew_icmp_ne (M := mX10_faultOf) (tgt := 65) dX10_faultOf_58 rfl (fun h => absurd rfl h) (fun _ => ?_)
            refine ew_iconst (M := mX10_faultOf) dX10_faultOf_61 (v := nI 0) (by decide) ?_
            refine ew_goto (M := mX10_faultOf) (tgt := 66) dX10_faultOf_62 rfl ?_
            refine ew_iret (M := mX10_faultOf) dX10_faultOf_66 rfl (by first | rfl | decide) (Nat.le_refl _) (Nat.le_refl _) ?_
            exact ⟨rfl, rfl⟩
theorem ms_goOn {d : Nat} {H : ex_H} {S : SS} {mn : Int32} {C N : Nat → Int32} {z : rd_S} (hS : mo_at H S (rdR z.2.1 z.2.2.1 z.2.2.2.1 z.2.2.2.2.1) mn C N) (hb : rdb z.2.1 z.2.2.1 z.2.2.2.1 z.2.2.2.2.1) {x : Nat} (hx : x < 256) (hf0 : rd_fs z x = 0) : ex_Met mX10_goOn (d + 2) 0 0 H [.ref 86, .int (nI x)] (fun H' r => r = none ∧ ex_ch H H' [86] ∧ mo_at H' S (rdR (rd_n z x).2.1 (rd_n z x).2.2.1 (rd_n z x).2.2.2.1 (rd_n z x).2.2.2.2.1) mn C N) := by
  obtain ⟨D, r, c, wd, hf, g, m⟩ := z
  change mo_at H S (rdR r c wd hf) mn C N at hS
  change rdb r c wd hf at hb
  change rd_f r c wd hf x = 0 at hf0
  obtain ⟨a1, ⟨hfi, hsd, hkp⟩, ⟨W, a2, hw0, ⟨hcn, hwh⟩, hwi⟩, ⟨T, a3, htn, htx⟩, ⟨F, a4, hfl⟩, ⟨IF, IL, IS, a5, a6, a7, him⟩, ⟨BX, BY, BG, a8, a9, a10, hbn, hbk⟩, a11, a12⟩ := id hS
  obtain ⟨b1, b2, b3, b4⟩ := hb
  have b5 := mh_le b4
  unfold rd_f at hf0
  by_cases h47 : x = 47
  · subst h47
    rw [if_pos rfl] at hf0
    have hh : hf = 0 := by
      unfold brk at hf0
      by_cases e : hf ≠ 0 ∨ c = 0
      · rw [if_pos e] at hf0; simp at hf0
      · omega
    subst hh
    have en : rd_n (D, r, c, wd, 0, g, m) 47 = (D, r + 1, 0, rd_W r c wd, 0, g, m) := by
      unfold rd_n
      rw [if_pos rfl]
    rw [en]
    refine ex_meth [(0, .ref 86), (1, .int (nI 47))] rfl rfl rfl (fun b => Nat.le_of_ble_eq_true rfl) ?_
    refine ew_iload_n (M := mX10_goOn) dX10_goOn_0 rfl ?_
    refine ew_bipush (M := mX10_goOn) dX10_goOn_1 (v := nI 47) (by decide) ?_
    refine ew_icmp_ne (M := mX10_goOn) (tgt := 46) dX10_goOn_3 rfl (fun h => absurd rfl h) (fun _ => ?_)
    refine ew_aload_n (M := mX10_goOn) dX10_goOn_6 rfl (Or.inr (Or.inl ⟨_, rfl⟩)) ?_
    refine ew_aload_n (M := mX10_goOn) dX10_goOn_7 rfl (Or.inr (Or.inl ⟨_, rfl⟩)) ?_
    refine ew_get (M := mX10_goOn) dX10_goOn_8 fX10_74 (by repeat (first | with_reducible assumption | refine ex_eq ?_ | refine ex_ne ?_ (by omega) | exact ex_lt (by with_reducible assumption) | rw [List.length_set] | assumption)) (by rfl) ?_
    refine ew_if_ne (M := mX10_goOn) (tgt := 21) dX10_goOn_11 rfl (fun c11 => ?_) (fun c11 => ?_)
    · rw [nI_z (by omega)] at c11
      have ew : rd_W r c wd = wd := if_neg c11
      rw [ew]
      refine ew_aload_n (M := mX10_goOn) dX10_goOn_21 rfl (Or.inr (Or.inl ⟨_, rfl⟩)) ?_
      refine ew_get (M := mX10_goOn) dX10_goOn_22 fX10_80 (by repeat (first | with_reducible assumption | refine ex_eq ?_ | refine ex_ne ?_ (by omega) | exact ex_lt (by with_reducible assumption) | rw [List.length_set] | assumption)) (by rfl) ?_
      refine ew_put (M := mX10_goOn) dX10_goOn_25 fX10_80 (by repeat (first | with_reducible assumption | refine ex_eq ?_ | refine ex_ne ?_ (by omega) | exact ex_lt (by with_reducible assumption) | rw [List.length_set] | assumption)) (by exact Nat.le_of_ble_eq_true rfl) ⟨rfl, rfl, fun _ h => by cases h⟩ ?_
      refine ew_aload_n (M := mX10_goOn) dX10_goOn_28 rfl (Or.inr (Or.inl ⟨_, rfl⟩)) ?_
      refine ew_dup (M := mX10_goOn) dX10_goOn_29 rfl ?_
      refine ew_get (M := mX10_goOn) dX10_goOn_30 fX10_74 (by repeat (first | with_reducible assumption | refine ex_eq ?_ | refine ex_ne ?_ (by omega) | exact ex_lt (by with_reducible assumption) | rw [List.length_set] | assumption)) (by rfl) ?_
      refine ew_iconst (M := mX10_goOn) dX10_goOn_33 (v := nI 1) (by decide) ?_
      refine ew_iadd (M := mX10_goOn) dX10_goOn_34 ?_
      rw [nI_add]
      refine ew_put (M := mX10_goOn) dX10_goOn_35 fX10_74 (by repeat (first | with_reducible assumption | refine ex_eq ?_ | refine ex_ne ?_ (by omega) | exact ex_lt (by with_reducible assumption) | rw [List.length_set] | assumption)) (by exact Nat.le_of_ble_eq_true rfl) ⟨rfl, rfl, fun _ h => by cases h⟩ ?_
      refine ew_aload_n (M := mX10_goOn) dX10_goOn_38 rfl (Or.inr (Or.inl ⟨_, rfl⟩)) ?_
      refine ew_iconst (M := mX10_goOn) dX10_goOn_39 (v := nI 0) (by decide) ?_
      refine ew_put (M := mX10_goOn) dX10_goOn_40 fX10_77 (by repeat (first | with_reducible assumption | refine ex_eq ?_ | refine ex_ne ?_ (by omega) | exact ex_lt (by with_reducible assumption) | rw [List.length_set] | assumption)) (by exact Nat.le_of_ble_eq_true rfl) ⟨rfl, rfl, fun _ h => by cases h⟩ ?_
      refine ew_goto (M := mX10_goOn) (tgt := 93) dX10_goOn_43 rfl ?_
      refine ew_vret (M := mX10_goOn) dX10_goOn_93 rfl (Nat.le_refl _) (Nat.le_refl _) ?_
      exact ⟨rfl, ((ex_ch.rf.set (by simp)).set (by simp)).set (by simp), (by repeat (first | with_reducible assumption | refine ex_eq ?_ | refine ex_ne ?_ (by omega) | exact ex_lt (by with_reducible assumption) | rw [List.length_set] | assumption)), ⟨hfi, hsd, hkp⟩, ⟨W, (by repeat (first | with_reducible assumption | refine ex_eq ?_ | refine ex_ne ?_ (by omega) | exact ex_lt (by with_reducible assumption) | rw [List.length_set] | assumption)), hw0, ⟨hcn, hwh⟩, hwi⟩, ⟨T, (by repeat (first | with_reducible assumption | refine ex_eq ?_ | refine ex_ne ?_ (by omega) | exact ex_lt (by with_reducible assumption) | rw [List.length_set] | assumption)), htn, htx⟩, ⟨F, (by repeat (first | with_reducible assumption | refine ex_eq ?_ | refine ex_ne ?_ (by omega) | exact ex_lt (by with_reducible assumption) | rw [List.length_set] | assumption)), hfl⟩, ⟨IF, IL, IS, (by repeat (first | with_reducible assumption | refine ex_eq ?_ | refine ex_ne ?_ (by omega) | exact ex_lt (by with_reducible assumption) | rw [List.length_set] | assumption)), (by repeat (first | with_reducible assumption | refine ex_eq ?_ | refine ex_ne ?_ (by omega) | exact ex_lt (by with_reducible assumption) | rw [List.length_set] | assumption)), (by repeat (first | with_reducible assumption | refine ex_eq ?_ | refine ex_ne ?_ (by omega) | exact ex_lt (by with_reducible assumption) | rw [List.length_set] | assumption)), him⟩, ⟨BX, BY, BG, (by repeat (first | with_reducible assumption | refine ex_eq ?_ | refine ex_ne ?_ (by omega) | exact ex_lt (by with_reducible assumption) | rw [List.length_set] | assumption)), (by repeat (first | with_reducible assumption | refine ex_eq ?_ | refine ex_ne ?_ (by omega) | exact ex_lt (by with_reducible assumption) | rw [List.length_set] | assumption)), (by repeat (first | with_reducible assumption | refine ex_eq ?_ | refine ex_ne ?_ (by omega) | exact ex_lt (by with_reducible assumption) | rw [List.length_set] | assumption)), hbn, hbk⟩, (by repeat (first | with_reducible assumption | refine ex_eq ?_ | refine ex_ne ?_ (by omega) | exact ex_lt (by with_reducible assumption) | rw [List.length_set] | assumption)), (by repeat (first | with_reducible assumption | refine ex_eq ?_ | refine ex_ne ?_ (by omega) | exact ex_lt (by with_reducible assumption) | rw [List.length_set] | assumption))⟩
    · rw [nI_z (by omega)] at c11
      have ew : rd_W r c wd = c := if_pos c11
      rw [ew]
      refine ew_aload_n (M := mX10_goOn) dX10_goOn_14 rfl (Or.inr (Or.inl ⟨_, rfl⟩)) ?_
      refine ew_get (M := mX10_goOn) dX10_goOn_15 fX10_77 (by repeat (first | with_reducible assumption | refine ex_eq ?_ | refine ex_ne ?_ (by omega) | exact ex_lt (by with_reducible assumption) | rw [List.length_set] | assumption)) (by rfl) ?_
      refine ew_goto (M := mX10_goOn) (tgt := 25) dX10_goOn_18 rfl ?_
      refine ew_put (M := mX10_goOn) dX10_goOn_25 fX10_80 (by repeat (first | with_reducible assumption | refine ex_eq ?_ | refine ex_ne ?_ (by omega) | exact ex_lt (by with_reducible assumption) | rw [List.length_set] | assumption)) (by exact Nat.le_of_ble_eq_true rfl) ⟨rfl, rfl, fun _ h => by cases h⟩ ?_
      refine ew_aload_n (M := mX10_goOn) dX10_goOn_28 rfl (Or.inr (Or.inl ⟨_, rfl⟩)) ?_
      refine ew_dup (M := mX10_goOn) dX10_goOn_29 rfl ?_
      refine ew_get (M := mX10_goOn) dX10_goOn_30 fX10_74 (by repeat (first | with_reducible assumption | refine ex_eq ?_ | refine ex_ne ?_ (by omega) | exact ex_lt (by with_reducible assumption) | rw [List.length_set] | assumption)) (by rfl) ?_
      refine ew_iconst (M := mX10_goOn) dX10_goOn_33 (v := nI 1) (by decide) ?_
      refine ew_iadd (M := mX10_goOn) dX10_goOn_34 ?_
      rw [nI_add]
      refine ew_put (M := mX10_goOn) dX10_goOn_35 fX10_74 (by repeat (first | with_reducible assumption | refine ex_eq ?_ | refine ex_ne ?_ (by omega) | exact ex_lt (by with_reducible assumption) | rw [List.length_set] | assumption)) (by exact Nat.le_of_ble_eq_true rfl) ⟨rfl, rfl, fun _ h => by cases h⟩ ?_
      refine ew_aload_n (M := mX10_goOn) dX10_goOn_38 rfl (Or.inr (Or.inl ⟨_, rfl⟩)) ?_
      refine ew_iconst (M := mX10_goOn) dX10_goOn_39 (v := nI 0) (by decide) ?_
      refine ew_put (M := mX10_goOn) dX10_goOn_40 fX10_77 (by repeat (first | with_reducible assumption | refine ex_eq ?_ | refine ex_ne ?_ (by omega) | exact ex_lt (by with_reducible assumption) | rw [List.length_set] | assumption)) (by exact Nat.le_of_ble_eq_true rfl) ⟨rfl, rfl, fun _ h => by cases h⟩ ?_
      refine ew_goto (M := mX10_goOn) (tgt := 93) dX10_goOn_43 rfl ?_
      refine ew_vret (M := mX10_goOn) dX10_goOn_93 rfl (Nat.le_refl _) (Nat.le_refl _) ?_
      exact ⟨rfl, ((ex_ch.rf.set (by simp)).set (by simp)).set (by simp), (by repeat (first | with_reducible assumption | refine ex_eq ?_ | refine ex_ne ?_ (by omega) | exact ex_lt (by with_reducible assumption) | rw [List.length_set] | assumption)), ⟨hfi, hsd, hkp⟩, ⟨W, (by repeat (first | with_reducible assumption | refine ex_eq ?_ | refine ex_ne ?_ (by omega) | exact ex_lt (by with_reducible assumption) | rw [List.length_set] | assumption)), hw0, ⟨hcn, hwh⟩, hwi⟩, ⟨T, (by repeat (first | with_reducible assumption | refine ex_eq ?_ | refine ex_ne ?_ (by omega) | exact ex_lt (by with_reducible assumption) | rw [List.length_set] | assumption)), htn, htx⟩, ⟨F, (by repeat (first | with_reducible assumption | refine ex_eq ?_ | refine ex_ne ?_ (by omega) | exact ex_lt (by with_reducible assumption) | rw [List.length_set] | assumption)), hfl⟩, ⟨IF, IL, IS, (by repeat (first | with_reducible assumption | refine ex_eq ?_ | refine ex_ne ?_ (by omega) | exact ex_lt (by with_reducible assumption) | rw [List.length_set] | assumption)), (by repeat (first | with_reducible assumption | refine ex_eq ?_ | refine ex_ne ?_ (by omega) | exact ex_lt (by with_reducible assumption) | rw [List.length_set] | assumption)), (by repeat (first | with_reducible assumption | refine ex_eq ?_ | refine ex_ne ?_ (by omega) | exact ex_lt (by with_reducible assumption) | rw [List.length_set] | assumption)), him⟩, ⟨BX, BY, BG, (by repeat (first | with_reducible assumption | refine ex_eq ?_ | refine ex_ne ?_ (by omega) | exact ex_lt (by with_reducible assumption) | rw [List.length_set] | assumption)), (by repeat (first | with_reducible assumption | refine ex_eq ?_ | refine ex_ne ?_ (by omega) | exact ex_lt (by with_reducible assumption) | rw [List.length_set] | assumption)), (by repeat (first | with_reducible assumption | refine ex_eq ?_ | refine ex_ne ?_ (by omega) | exact ex_lt (by with_reducible assumption) | rw [List.length_set] | assumption)), hbn, hbk⟩, (by repeat (first | with_reducible assumption | refine ex_eq ?_ | refine ex_ne ?_ (by omega) | exact ex_lt (by with_reducible assumption) | rw [List.length_set] | assumption)), (by repeat (first | with_reducible assumption | refine ex_eq ?_ | refine ex_ne ?_ (by omega) | exact ex_lt (by with_reducible assumption) | rw [List.length_set] | assumption))⟩
  · rw [if_neg h47] at hf0
    have n47 : ¬ nI x = nI 47 := fun e => h47 ((nI_eq (by omega) (by decide)).mp e)
    by_cases h0 : hf = 0
    · subst h0
      by_cases h45 : x = 45
      · subst h45
        have en : rd_n (D, r, c, wd, 0, g, m) 45 = (D, r, c, wd, 17, g, m) := by
          unfold rd_n
          rw [if_neg (by decide), sg_45.1]
          rfl
        rw [en]
        refine ex_meth [(0, .ref 86), (1, .int (nI 45))] rfl rfl rfl (fun b => Nat.le_of_ble_eq_true rfl) ?_
        refine ew_iload_n (M := mX10_goOn) dX10_goOn_0 rfl ?_
        refine ew_bipush (M := mX10_goOn) dX10_goOn_1 (v := nI 47) (by decide) ?_
        refine ew_icmp_ne (M := mX10_goOn) (tgt := 46) dX10_goOn_3 rfl (fun _ => ?_) (fun h => absurd h (by decide))
        refine ew_aload_n (M := mX10_goOn) dX10_goOn_46 rfl (Or.inr (Or.inl ⟨_, rfl⟩)) ?_
        refine ew_get (M := mX10_goOn) dX10_goOn_47 fX10_83 (by repeat (first | with_reducible assumption | refine ex_eq ?_ | refine ex_ne ?_ (by omega) | exact ex_lt (by with_reducible assumption) | rw [List.length_set] | assumption)) (by rfl) ?_
        refine ew_if_ne (M := mX10_goOn) (tgt := 78) dX10_goOn_50 rfl (fun h => absurd (show nI (mh 0) = 0 by decide) h) (fun _ => ?_)
        refine ew_aload_n (M := mX10_goOn) dX10_goOn_53 rfl (Or.inr (Or.inl ⟨_, rfl⟩)) ?_
        refine ew_iload_n (M := mX10_goOn) dX10_goOn_54 rfl ?_
        refine ew_bipush (M := mX10_goOn) dX10_goOn_55 (v := nI 45) (by decide) ?_
        refine ew_icmp_ne (M := mX10_goOn) (tgt := 65) dX10_goOn_57 rfl (fun h => absurd rfl h) (fun _ => ?_)
        refine ew_bipush (M := mX10_goOn) dX10_goOn_60 (v := nI 15) (by decide) ?_
        refine ew_goto (M := mX10_goOn) (tgt := 72) dX10_goOn_62 rfl ?_
        refine ew_put (M := mX10_goOn) dX10_goOn_72 fX10_83 (by repeat (first | with_reducible assumption | refine ex_eq ?_ | refine ex_ne ?_ (by omega) | exact ex_lt (by with_reducible assumption) | rw [List.length_set] | assumption)) (by exact Nat.le_of_ble_eq_true rfl) ⟨rfl, rfl, fun _ h => by cases h⟩ ?_
        refine ew_goto (M := mX10_goOn) (tgt := 93) dX10_goOn_75 rfl ?_
        refine ew_vret (M := mX10_goOn) dX10_goOn_93 rfl (Nat.le_refl _) (Nat.le_refl _) ?_
        exact ⟨rfl, ex_ch.rf.set (by simp), (by repeat (first | with_reducible assumption | refine ex_eq ?_ | refine ex_ne ?_ (by omega) | exact ex_lt (by with_reducible assumption) | rw [List.length_set] | assumption)), ⟨hfi, hsd, hkp⟩, ⟨W, (by repeat (first | with_reducible assumption | refine ex_eq ?_ | refine ex_ne ?_ (by omega) | exact ex_lt (by with_reducible assumption) | rw [List.length_set] | assumption)), hw0, ⟨hcn, hwh⟩, hwi⟩, ⟨T, (by repeat (first | with_reducible assumption | refine ex_eq ?_ | refine ex_ne ?_ (by omega) | exact ex_lt (by with_reducible assumption) | rw [List.length_set] | assumption)), htn, htx⟩, ⟨F, (by repeat (first | with_reducible assumption | refine ex_eq ?_ | refine ex_ne ?_ (by omega) | exact ex_lt (by with_reducible assumption) | rw [List.length_set] | assumption)), hfl⟩, ⟨IF, IL, IS, (by repeat (first | with_reducible assumption | refine ex_eq ?_ | refine ex_ne ?_ (by omega) | exact ex_lt (by with_reducible assumption) | rw [List.length_set] | assumption)), (by repeat (first | with_reducible assumption | refine ex_eq ?_ | refine ex_ne ?_ (by omega) | exact ex_lt (by with_reducible assumption) | rw [List.length_set] | assumption)), (by repeat (first | with_reducible assumption | refine ex_eq ?_ | refine ex_ne ?_ (by omega) | exact ex_lt (by with_reducible assumption) | rw [List.length_set] | assumption)), him⟩, ⟨BX, BY, BG, (by repeat (first | with_reducible assumption | refine ex_eq ?_ | refine ex_ne ?_ (by omega) | exact ex_lt (by with_reducible assumption) | rw [List.length_set] | assumption)), (by repeat (first | with_reducible assumption | refine ex_eq ?_ | refine ex_ne ?_ (by omega) | exact ex_lt (by with_reducible assumption) | rw [List.length_set] | assumption)), (by repeat (first | with_reducible assumption | refine ex_eq ?_ | refine ex_ne ?_ (by omega) | exact ex_lt (by with_reducible assumption) | rw [List.length_set] | assumption)), hbn, hbk⟩, (by repeat (first | with_reducible assumption | refine ex_eq ?_ | refine ex_ne ?_ (by omega) | exact ex_lt (by with_reducible assumption) | rw [List.length_set] | assumption)), (by repeat (first | with_reducible assumption | refine ex_eq ?_ | refine ex_ne ?_ (by omega) | exact ex_lt (by with_reducible assumption) | rw [List.length_set] | assumption))⟩
      · obtain ⟨hfg, hs16⟩ := fg_sg h45
        have n45 : ¬ nI x = nI 45 := fun e => h45 ((nI_eq (by omega) (by decide)).mp e)
        cases hsg : sg x with
        | none => rw [hsg] at hf0; cases hf0
        | some s =>
          have hs := hs16 s hsg
          rw [hsg] at hfg
          change fgI x = nI s at hfg
          have en : rd_n (D, r, c, wd, 0, g, m) x = (D, r, c, wd, s + 1, g, m) := by
            unfold rd_n
            rw [if_neg h47, hsg]
            rfl
          have em : mh (s + 1) = 16 + s := by
            unfold mh
            rw [if_neg (by omega), if_neg (by omega)]
            omega
          have eR : rdR r c wd (s + 1) = (nI r, nI c, nI wd, nI (16 + s)) := by
            show (_, _, _, nI (mh (s + 1))) = _
            rw [em]
          rw [en]
          dsimp only
          rw [eR]
          refine ex_meth [(0, .ref 86), (1, .int (nI x))] rfl rfl rfl (fun b => Nat.le_of_ble_eq_true rfl) ?_
          refine ew_iload_n (M := mX10_goOn) dX10_goOn_0 rfl ?_
          refine ew_bipush (M := mX10_goOn) dX10_goOn_1 (v := nI 47) (by decide) ?_
          refine ew_icmp_ne (M := mX10_goOn) (tgt := 46) dX10_goOn_3 rfl (fun _ => ?_) (fun h => absurd h n47)
          refine ew_aload_n (M := mX10_goOn) dX10_goOn_46 rfl (Or.inr (Or.inl ⟨_, rfl⟩)) ?_
          refine ew_get (M := mX10_goOn) dX10_goOn_47 fX10_83 (by repeat (first | with_reducible assumption | refine ex_eq ?_ | refine ex_ne ?_ (by omega) | exact ex_lt (by with_reducible assumption) | rw [List.length_set] | assumption)) (by rfl) ?_
          refine ew_if_ne (M := mX10_goOn) (tgt := 78) dX10_goOn_50 rfl (fun h => absurd (show nI (mh 0) = 0 by decide) h) (fun _ => ?_)
          refine ew_aload_n (M := mX10_goOn) dX10_goOn_53 rfl (Or.inr (Or.inl ⟨_, rfl⟩)) ?_
          refine ew_iload_n (M := mX10_goOn) dX10_goOn_54 rfl ?_
          refine ew_bipush (M := mX10_goOn) dX10_goOn_55 (v := nI 45) (by decide) ?_
          refine ew_icmp_ne (M := mX10_goOn) (tgt := 65) dX10_goOn_57 rfl (fun _ => ?_) (fun h => absurd h n45)
          refine ew_bipush (M := mX10_goOn) dX10_goOn_65 (v := nI 16) (by decide) ?_
          refine ew_iload_n (M := mX10_goOn) dX10_goOn_67 rfl ?_
          refine ew_callS (M := mX10_goOn) dX10_goOn_68 vX10_94 (ms_figure hx) rfl (Nat.le_of_ble_eq_true rfl) ⟨Nat.le_refl _, Nat.le_refl _⟩ rfl (fun H68 r68 q68 => ?_)
          obtain ⟨rfl, rfl⟩ := q68
          rw [hfg]
          refine ew_iadd (M := mX10_goOn) dX10_goOn_71 ?_
          rw [nI_add]
          refine ew_put (M := mX10_goOn) dX10_goOn_72 fX10_83 (by repeat (first | with_reducible assumption | refine ex_eq ?_ | refine ex_ne ?_ (by omega) | exact ex_lt (by with_reducible assumption) | rw [List.length_set] | assumption)) (by exact Nat.le_of_ble_eq_true rfl) ⟨rfl, rfl, fun _ h => by cases h⟩ ?_
          refine ew_goto (M := mX10_goOn) (tgt := 93) dX10_goOn_75 rfl ?_
          refine ew_vret (M := mX10_goOn) dX10_goOn_93 rfl (Nat.le_refl _) (Nat.le_refl _) ?_
          exact ⟨rfl, ex_ch.rf.set (by simp), (by repeat (first | with_reducible assumption | refine ex_eq ?_ | refine ex_ne ?_ (by omega) | exact ex_lt (by with_reducible assumption) | rw [List.length_set] | assumption)), ⟨hfi, hsd, hkp⟩, ⟨W, (by repeat (first | with_reducible assumption | refine ex_eq ?_ | refine ex_ne ?_ (by omega) | exact ex_lt (by with_reducible assumption) | rw [List.length_set] | assumption)), hw0, ⟨hcn, hwh⟩, hwi⟩, ⟨T, (by repeat (first | with_reducible assumption | refine ex_eq ?_ | refine ex_ne ?_ (by omega) | exact ex_lt (by with_reducible assumption) | rw [List.length_set] | assumption)), htn, htx⟩, ⟨F, (by repeat (first | with_reducible assumption | refine ex_eq ?_ | refine ex_ne ?_ (by omega) | exact ex_lt (by with_reducible assumption) | rw [List.length_set] | assumption)), hfl⟩, ⟨IF, IL, IS, (by repeat (first | with_reducible assumption | refine ex_eq ?_ | refine ex_ne ?_ (by omega) | exact ex_lt (by with_reducible assumption) | rw [List.length_set] | assumption)), (by repeat (first | with_reducible assumption | refine ex_eq ?_ | refine ex_ne ?_ (by omega) | exact ex_lt (by with_reducible assumption) | rw [List.length_set] | assumption)), (by repeat (first | with_reducible assumption | refine ex_eq ?_ | refine ex_ne ?_ (by omega) | exact ex_lt (by with_reducible assumption) | rw [List.length_set] | assumption)), him⟩, ⟨BX, BY, BG, (by repeat (first | with_reducible assumption | refine ex_eq ?_ | refine ex_ne ?_ (by omega) | exact ex_lt (by with_reducible assumption) | rw [List.length_set] | assumption)), (by repeat (first | with_reducible assumption | refine ex_eq ?_ | refine ex_ne ?_ (by omega) | exact ex_lt (by with_reducible assumption) | rw [List.length_set] | assumption)), (by repeat (first | with_reducible assumption | refine ex_eq ?_ | refine ex_ne ?_ (by omega) | exact ex_lt (by with_reducible assumption) | rw [List.length_set] | assumption)), hbn, hbk⟩, (by repeat (first | with_reducible assumption | refine ex_eq ?_ | refine ex_ne ?_ (by omega) | exact ex_lt (by with_reducible assumption) | rw [List.length_set] | assumption)), (by repeat (first | with_reducible assumption | refine ex_eq ?_ | refine ex_ne ?_ (by omega) | exact ex_lt (by with_reducible assumption) | rw [List.length_set] | assumption))⟩
    · cases hsg : sg x with
      | none => rw [hsg] at hf0; cases hf0
      | some s =>
        have en : (rd_n (D, r, c, wd, hf, g, m) x).2.1 = r ∧ (rd_n (D, r, c, wd, hf, g, m) x).2.2.1 = c + 1 ∧ (rd_n (D, r, c, wd, hf, g, m) x).2.2.2.1 = wd ∧ (rd_n (D, r, c, wd, hf, g, m) x).2.2.2.2.1 = 0 := by
          unfold rd_n
          rw [if_neg h47, hsg]
          dsimp only
          rw [if_neg h0]
          exact ⟨rfl, rfl, rfl, rfl⟩
        rw [en.1, en.2.1, en.2.2.1, en.2.2.2]
        have hp : 0 < mh hf := Nat.pos_of_ne_zero (fun e => h0 (mh_z.mp e))
        refine ex_meth [(0, .ref 86), (1, .int (nI x))] rfl rfl rfl (fun b => Nat.le_of_ble_eq_true rfl) ?_
        refine ew_iload_n (M := mX10_goOn) dX10_goOn_0 rfl ?_
        refine ew_bipush (M := mX10_goOn) dX10_goOn_1 (v := nI 47) (by decide) ?_
        refine ew_icmp_ne (M := mX10_goOn) (tgt := 46) dX10_goOn_3 rfl (fun _ => ?_) (fun h => absurd h n47)
        refine ew_aload_n (M := mX10_goOn) dX10_goOn_46 rfl (Or.inr (Or.inl ⟨_, rfl⟩)) ?_
        refine ew_get (M := mX10_goOn) dX10_goOn_47 fX10_83 (by repeat (first | with_reducible assumption | refine ex_eq ?_ | refine ex_ne ?_ (by omega) | exact ex_lt (by with_reducible assumption) | rw [List.length_set] | assumption)) (by rfl) ?_
        refine ew_if_ne (M := mX10_goOn) (tgt := 78) dX10_goOn_50 rfl (fun _ => ?_) (fun h => absurd h (nI_n0 hp (by omega)))
        refine ew_aload_n (M := mX10_goOn) dX10_goOn_78 rfl (Or.inr (Or.inl ⟨_, rfl⟩)) ?_
        refine ew_iconst (M := mX10_goOn) dX10_goOn_79 (v := nI 0) (by decide) ?_
        refine ew_put (M := mX10_goOn) dX10_goOn_80 fX10_83 (by repeat (first | with_reducible assumption | refine ex_eq ?_ | refine ex_ne ?_ (by omega) | exact ex_lt (by with_reducible assumption) | rw [List.length_set] | assumption)) (by exact Nat.le_of_ble_eq_true rfl) ⟨rfl, rfl, fun _ h => by cases h⟩ ?_
        refine ew_aload_n (M := mX10_goOn) dX10_goOn_83 rfl (Or.inr (Or.inl ⟨_, rfl⟩)) ?_
        refine ew_dup (M := mX10_goOn) dX10_goOn_84 rfl ?_
        refine ew_get (M := mX10_goOn) dX10_goOn_85 fX10_77 (by repeat (first | with_reducible assumption | refine ex_eq ?_ | refine ex_ne ?_ (by omega) | exact ex_lt (by with_reducible assumption) | rw [List.length_set] | assumption)) (by rfl) ?_
        refine ew_iconst (M := mX10_goOn) dX10_goOn_88 (v := nI 1) (by decide) ?_
        refine ew_iadd (M := mX10_goOn) dX10_goOn_89 ?_
        rw [nI_add]
        refine ew_put (M := mX10_goOn) dX10_goOn_90 fX10_77 (by repeat (first | with_reducible assumption | refine ex_eq ?_ | refine ex_ne ?_ (by omega) | exact ex_lt (by with_reducible assumption) | rw [List.length_set] | assumption)) (by exact Nat.le_of_ble_eq_true rfl) ⟨rfl, rfl, fun _ h => by cases h⟩ ?_
        refine ew_vret (M := mX10_goOn) dX10_goOn_93 rfl (Nat.le_refl _) (Nat.le_refl _) ?_
        exact ⟨rfl, (ex_ch.rf.set (by simp)).set (by simp), (by repeat (first | with_reducible assumption | refine ex_eq ?_ | refine ex_ne ?_ (by omega) | exact ex_lt (by with_reducible assumption) | rw [List.length_set] | assumption)), ⟨hfi, hsd, hkp⟩, ⟨W, (by repeat (first | with_reducible assumption | refine ex_eq ?_ | refine ex_ne ?_ (by omega) | exact ex_lt (by with_reducible assumption) | rw [List.length_set] | assumption)), hw0, ⟨hcn, hwh⟩, hwi⟩, ⟨T, (by repeat (first | with_reducible assumption | refine ex_eq ?_ | refine ex_ne ?_ (by omega) | exact ex_lt (by with_reducible assumption) | rw [List.length_set] | assumption)), htn, htx⟩, ⟨F, (by repeat (first | with_reducible assumption | refine ex_eq ?_ | refine ex_ne ?_ (by omega) | exact ex_lt (by with_reducible assumption) | rw [List.length_set] | assumption)), hfl⟩, ⟨IF, IL, IS, (by repeat (first | with_reducible assumption | refine ex_eq ?_ | refine ex_ne ?_ (by omega) | exact ex_lt (by with_reducible assumption) | rw [List.length_set] | assumption)), (by repeat (first | with_reducible assumption | refine ex_eq ?_ | refine ex_ne ?_ (by omega) | exact ex_lt (by with_reducible assumption) | rw [List.length_set] | assumption)), (by repeat (first | with_reducible assumption | refine ex_eq ?_ | refine ex_ne ?_ (by omega) | exact ex_lt (by with_reducible assumption) | rw [List.length_set] | assumption)), him⟩, ⟨BX, BY, BG, (by repeat (first | with_reducible assumption | refine ex_eq ?_ | refine ex_ne ?_ (by omega) | exact ex_lt (by with_reducible assumption) | rw [List.length_set] | assumption)), (by repeat (first | with_reducible assumption | refine ex_eq ?_ | refine ex_ne ?_ (by omega) | exact ex_lt (by with_reducible assumption) | rw [List.length_set] | assumption)), (by repeat (first | with_reducible assumption | refine ex_eq ?_ | refine ex_ne ?_ (by omega) | exact ex_lt (by with_reducible assumption) | rw [List.length_set] | assumption)), hbn, hbk⟩, (by repeat (first | with_reducible assumption | refine ex_eq ?_ | refine ex_ne ?_ (by omega) | exact ex_lt (by with_reducible assumption) | rw [List.length_set] | assumption)), (by repeat (first | with_reducible assumption | refine ex_eq ?_ | refine ex_ne ?_ (by omega) | exact ex_lt (by with_reducible assumption) | rw [List.length_set] | assumption))⟩
