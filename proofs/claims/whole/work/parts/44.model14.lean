theorem rdb_of {z : rd_S} (h : rd_o z) : rdb z.2.1 z.2.2.1 (if z.2.1 = 0 then 0 else z.2.2.2.1) z.2.2.2.2.1 := by
  obtain ⟨h1, h2, h3, h4, h5, h6, h7⟩ := h
  have hw : z.2.1 ≠ 0 → rdW z.2.1 z.2.2.2.1 = z.2.2.2.1 := fun e => if_neg e
  refine ⟨h1, by omega, ?_, h5⟩
  by_cases e : z.2.1 = 0
  · rw [if_pos e]; omega
  · rw [if_neg e]; have := hw e; omega
/-- before the first break no row is known -/
theorem rd_w0 {t : Nat → Nat} : ∀ (i : Nat) (z : rd_S), rd_st t i = .inr z → z.2.1 = 0 → z.2.2.2.1 = 0
  | 0, z, h => by
    cases h
    exact fun _ => rfl
  | i + 1, z, h => by
    have h2 : (match rd_st t i with | .inl f => (.inl f : (Nat × Nat) ⊕ rd_S) | .inr z => if rd_fs z (t i) = 0 then .inr (rd_n z (t i)) else .inl (rd_fs z (t i), i)) = .inr z := h
    cases e : rd_st t i with
    | inl f => rw [e] at h2; cases h2
    | inr z0 =>
      rw [e] at h2
      dsimp only at h2
      have ih := rd_w0 i z0 e
      by_cases q : rd_fs z0 (t i) = 0
      · rw [if_pos q] at h2
        injection h2 with h2
        subst h2
        unfold rd_n
        by_cases h47 : t i = 47
        · rw [if_pos h47]
          intro h0
          exact absurd h0 (by show ¬ z0.2.1 + 1 = 0; omega)
        · rw [if_neg h47]
          cases sg (t i) with
          | none => exact ih
          | some s =>
            dsimp only
            by_cases hz : z0.2.2.2.2.1 = 0
            · rw [if_pos hz]; exact ih
            · rw [if_neg hz]; exact ih
      · rw [if_neg q] at h2; cases h2
theorem rdb_st {t : Nat → Nat} {i : Nat} {z : rd_S} (h : rd_st t i = .inr z) : rdb z.2.1 z.2.2.1 z.2.2.2.1 z.2.2.2.2.1 := by
  have h1 := rdb_of (rd_st_ok i z h)
  have h2 := rd_w0 i z h
  refine ⟨h1.1, h1.2.1, ?_, h1.2.2.2⟩
  have h3 := h1.2.2.1
  by_cases e : z.2.1 = 0
  · rw [h2 e]; decide
  · rw [if_neg e] at h3; exact h3
theorem rd_bk {t : Nat → Nat} {n : Nat} {z : rd_S} (h : rd_st t n = .inr z) : ∀ k, k ≤ n → ∃ y, rd_st t k = .inr y := by
  intro k hk
  cases e : rd_st t k with
  | inl f => rw [rd_st_l e n hk] at h; cases h
  | inr y => exact ⟨y, rfl⟩
theorem rd_bs {t : Nat → Nat} {n : Nat} {z : rd_S} (h : rd_st t n = .inr z) {k : Nat} (hk : k < n) {y : rd_S} (hy : rd_st t k = .inr y) : rd_fs y (t k) = 0 ∧ rd_st t (k + 1) = .inr (rd_n y (t k)) := by
  have h0 : rd_fs y (t k) = 0 := by
    rcases Nat.eq_zero_or_pos (rd_fs y (t k)) with e | e
    · exact e
    · obtain ⟨y1, h1⟩ := rd_bk h (k + 1) hk
      have h2 : (match rd_st t k with | .inl f => (.inl f : (Nat × Nat) ⊕ rd_S) | .inr z => if rd_fs z (t k) = 0 then .inr (rd_n z (t k)) else .inl (rd_fs z (t k), k)) = .inr y1 := h1
      rw [hy] at h2
      dsimp only at h2
      rw [if_neg (by omega)] at h2
      cases h2
  exact ⟨h0, rd_st_s hy h0⟩
theorem mo_fa {H : ex_H} {S : SS} {R : Int32 × Int32 × Int32 × Int32} {mn : Int32} {C N : Nat → Int32} (hS : mo_at H S R mn C N) (x : Int32) : mo_at (H.set 86 (mob (nI S.2.2.2.2.2.1.1) (nI (S.2.2.2.1 0 + 2 * S.2.2.2.1 1)) (nI S.2.2.1.2.2.2) (nI S.1.1) x (nI S.2.2.1.2.2.1) (nI S.2.2.2.2.2.2.1) R.1 R.2.1 R.2.2.1 R.2.2.2 mn)) (s_fa S x) R mn C N := by
  obtain ⟨a1, ⟨hfi, hsd, hkp⟩, ⟨W, a2, hw0, ⟨hcn, hwh⟩, hwi⟩, ⟨T, a3, htn, htx⟩, ⟨F, a4, hfl⟩, ⟨IF, IL, IS, a5, a6, a7, him⟩, ⟨BX, BY, BG, a8, a9, a10, hbn, hbk⟩, a11, a12⟩ := id hS
  exact ⟨(by repeat (first | with_reducible assumption | refine ex_eq ?_ | refine ex_ne ?_ (by omega) | exact ex_lt (by with_reducible assumption) | rw [List.length_set] | assumption)), ⟨hfi, hsd, hkp⟩, ⟨W, (by repeat (first | with_reducible assumption | refine ex_eq ?_ | refine ex_ne ?_ (by omega) | exact ex_lt (by with_reducible assumption) | rw [List.length_set] | assumption)), hw0, ⟨hcn, hwh⟩, hwi⟩, ⟨T, (by repeat (first | with_reducible assumption | refine ex_eq ?_ | refine ex_ne ?_ (by omega) | exact ex_lt (by with_reducible assumption) | rw [List.length_set] | assumption)), htn, htx⟩, ⟨F, (by repeat (first | with_reducible assumption | refine ex_eq ?_ | refine ex_ne ?_ (by omega) | exact ex_lt (by with_reducible assumption) | rw [List.length_set] | assumption)), hfl⟩, ⟨IF, IL, IS, (by repeat (first | with_reducible assumption | refine ex_eq ?_ | refine ex_ne ?_ (by omega) | exact ex_lt (by with_reducible assumption) | rw [List.length_set] | assumption)), (by repeat (first | with_reducible assumption | refine ex_eq ?_ | refine ex_ne ?_ (by omega) | exact ex_lt (by with_reducible assumption) | rw [List.length_set] | assumption)), (by repeat (first | with_reducible assumption | refine ex_eq ?_ | refine ex_ne ?_ (by omega) | exact ex_lt (by with_reducible assumption) | rw [List.length_set] | assumption)), him⟩, ⟨BX, BY, BG, (by repeat (first | with_reducible assumption | refine ex_eq ?_ | refine ex_ne ?_ (by omega) | exact ex_lt (by with_reducible assumption) | rw [List.length_set] | assumption)), (by repeat (first | with_reducible assumption | refine ex_eq ?_ | refine ex_ne ?_ (by omega) | exact ex_lt (by with_reducible assumption) | rw [List.length_set] | assumption)), (by repeat (first | with_reducible assumption | refine ex_eq ?_ | refine ex_ne ?_ (by omega) | exact ex_lt (by with_reducible assumption) | rw [List.length_set] | assumption)), hbn, hbk⟩, (by repeat (first | with_reducible assumption | refine ex_eq ?_ | refine ex_ne ?_ (by omega) | exact ex_lt (by with_reducible assumption) | rw [List.length_set] | assumption)), (by repeat (first | with_reducible assumption | refine ex_eq ?_ | refine ex_ne ?_ (by omega) | exact ex_lt (by with_reducible assumption) | rw [List.length_set] | assumption))⟩
theorem ms_readText {d : Nat} {H : ex_H} {S : SS} {R : Int32 × Int32 × Int32 × Int32} {mn : Int32} {C N : Nat → Int32} (hS : mo_at H S R mn C N) : ex_Met mX10_readText (d + 3) 0 0 H [.ref 86] (fun H' r => r = some (.int (nI (rd_fault S.1.2 S.1.1).1)) ∧ ex_ch H H' [86] ∧ ∃ R', mo_at H' (s_fa S (if (rd_fault S.1.2 S.1.1).1 = 0 then -1 else nI (rd_fault S.1.2 S.1.1).2)) R' mn C N) := by
  obtain ⟨a1, ⟨hfi, hsd, hkp⟩, ⟨W, a2, hw0, ⟨hcn, hwh⟩, hwi⟩, ⟨T, a3, htn, htx⟩, ⟨F, a4, hfl⟩, ⟨IF, IL, IS, a5, a6, a7, him⟩, ⟨BX, BY, BG, a8, a9, a10, hbn, hbk⟩, a11, a12⟩ := id hS
  refine ex_meth [(0, .ref 86)] rfl rfl rfl (fun b => Nat.le_of_ble_eq_true rfl) ?_
  refine ew_aload_n (M := mX10_readText) dX10_readText_0 rfl (Or.inr (Or.inl ⟨_, rfl⟩)) ?_
  refine ew_iconst (M := mX10_readText) dX10_readText_1 (v := nI 0) (by decide) ?_
  refine ew_put (M := mX10_readText) dX10_readText_2 fX10_74 (by repeat (first | with_reducible assumption | refine ex_eq ?_ | refine ex_ne ?_ (by omega) | exact ex_lt (by with_reducible assumption) | rw [List.length_set] | assumption)) (by exact Nat.le_of_ble_eq_true rfl) ⟨rfl, rfl, fun _ h => by cases h⟩ ?_
  refine ew_aload_n (M := mX10_readText) dX10_readText_5 rfl (Or.inr (Or.inl ⟨_, rfl⟩)) ?_
  refine ew_iconst (M := mX10_readText) dX10_readText_6 (v := nI 0) (by decide) ?_
  refine ew_put (M := mX10_readText) dX10_readText_7 fX10_77 (by repeat (first | with_reducible assumption | refine ex_eq ?_ | refine ex_ne ?_ (by omega) | exact ex_lt (by with_reducible assumption) | rw [List.length_set] | assumption)) (by exact Nat.le_of_ble_eq_true rfl) ⟨rfl, rfl, fun _ h => by cases h⟩ ?_
  refine ew_aload_n (M := mX10_readText) dX10_readText_10 rfl (Or.inr (Or.inl ⟨_, rfl⟩)) ?_
  refine ew_iconst (M := mX10_readText) dX10_readText_11 (v := nI 0) (by decide) ?_
  refine ew_put (M := mX10_readText) dX10_readText_12 fX10_80 (by repeat (first | with_reducible assumption | refine ex_eq ?_ | refine ex_ne ?_ (by omega) | exact ex_lt (by with_reducible assumption) | rw [List.length_set] | assumption)) (by exact Nat.le_of_ble_eq_true rfl) ⟨rfl, rfl, fun _ h => by cases h⟩ ?_
  refine ew_aload_n (M := mX10_readText) dX10_readText_15 rfl (Or.inr (Or.inl ⟨_, rfl⟩)) ?_
  refine ew_iconst (M := mX10_readText) dX10_readText_16 (v := nI 0) (by decide) ?_
  refine ew_put (M := mX10_readText) dX10_readText_17 fX10_83 (by repeat (first | with_reducible assumption | refine ex_eq ?_ | refine ex_ne ?_ (by omega) | exact ex_lt (by with_reducible assumption) | rw [List.length_set] | assumption)) (by exact Nat.le_of_ble_eq_true rfl) ⟨rfl, rfl, fun _ h => by cases h⟩ ?_
  refine ew_iconst (M := mX10_readText) dX10_readText_20 (v := nI 0) (by decide) ?_
  refine ew_istore_n (M := mX10_readText) dX10_readText_21 (by decide) rfl ?_
  rw [List.set_set, List.set_set, List.set_set]
  have hS0 : mo_at (H.set 86 (mob (nI S.2.2.2.2.2.1.1) (nI (S.2.2.2.1 0 + 2 * S.2.2.2.1 1)) (nI S.2.2.1.2.2.2) (nI S.1.1) S.2.1 (nI S.2.2.1.2.2.1) (nI S.2.2.2.2.2.2.1) (nI 0) (nI 0) (nI 0) (nI 0) mn)) S (rdR 0 0 0 0) mn C N := ⟨(by repeat (first | with_reducible assumption | refine ex_eq ?_ | refine ex_ne ?_ (by omega) | exact ex_lt (by with_reducible assumption) | rw [List.length_set] | assumption)), ⟨hfi, hsd, hkp⟩, ⟨W, (by repeat (first | with_reducible assumption | refine ex_eq ?_ | refine ex_ne ?_ (by omega) | exact ex_lt (by with_reducible assumption) | rw [List.length_set] | assumption)), hw0, ⟨hcn, hwh⟩, hwi⟩, ⟨T, (by repeat (first | with_reducible assumption | refine ex_eq ?_ | refine ex_ne ?_ (by omega) | exact ex_lt (by with_reducible assumption) | rw [List.length_set] | assumption)), htn, htx⟩, ⟨F, (by repeat (first | with_reducible assumption | refine ex_eq ?_ | refine ex_ne ?_ (by omega) | exact ex_lt (by with_reducible assumption) | rw [List.length_set] | assumption)), hfl⟩, ⟨IF, IL, IS, (by repeat (first | with_reducible assumption | refine ex_eq ?_ | refine ex_ne ?_ (by omega) | exact ex_lt (by with_reducible assumption) | rw [List.length_set] | assumption)), (by repeat (first | with_reducible assumption | refine ex_eq ?_ | refine ex_ne ?_ (by omega) | exact ex_lt (by with_reducible assumption) | rw [List.length_set] | assumption)), (by repeat (first | with_reducible assumption | refine ex_eq ?_ | refine ex_ne ?_ (by omega) | exact ex_lt (by with_reducible assumption) | rw [List.length_set] | assumption)), him⟩, ⟨BX, BY, BG, (by repeat (first | with_reducible assumption | refine ex_eq ?_ | refine ex_ne ?_ (by omega) | exact ex_lt (by with_reducible assumption) | rw [List.length_set] | assumption)), (by repeat (first | with_reducible assumption | refine ex_eq ?_ | refine ex_ne ?_ (by omega) | exact ex_lt (by with_reducible assumption) | rw [List.length_set] | assumption)), (by repeat (first | with_reducible assumption | refine ex_eq ?_ | refine ex_ne ?_ (by omega) | exact ex_lt (by with_reducible assumption) | rw [List.length_set] | assumption)), hbn, hbk⟩, (by repeat (first | with_reducible assumption | refine ex_eq ?_ | refine ex_ne ?_ (by omega) | exact ex_lt (by with_reducible assumption) | rw [List.length_set] | assumption)), (by repeat (first | with_reducible assumption | refine ex_eq ?_ | refine ex_ne ?_ (by omega) | exact ex_lt (by with_reducible assumption) | rw [List.length_set] | assumption))⟩
  have key : ∀ (m k : Nat) (z : rd_S) (H2 : ex_H), k + m = S.1.1 → rd_st S.1.2 k = .inr z → ex_ch H H2 [86] → mo_at H2 S (rdR z.2.1 z.2.2.1 z.2.2.2.1 z.2.2.2.2.1) mn C N → ex_W mX10_readText (d + 3) 0 0 (fun H' r => r = some (.int (nI (rd_fault S.1.2 S.1.1).1)) ∧ ex_ch H H' [86] ∧ ∃ R', mo_at H' (s_fa S (if (rd_fault S.1.2 S.1.1).1 = 0 then -1 else nI (rd_fault S.1.2 S.1.1).2)) R' mn C N) H2 22 [(0, .ref 86), (1, .int (nI k))] [] 0 0 := by
    intro m
    induction m with
    | zero =>
      intro k z H2 hk hz hc2 hS2
      have b1 := hS2.1
      have hk' : k = S.1.1 := by omega
      subst hk'
      have hb := rdb_st hz
      have ef : rd_fault S.1.2 S.1.1 = (brks z, S.1.1) := by
        unfold rd_fault
        rw [hz]
      rw [ef]
      have b5 := mh_le hb.2.2.2
      have hb1 := hb.1
      have hb2 := hb.2.1
      have hb3 := hb.2.2.1
      refine ew_iload_n (M := mX10_readText) dX10_readText_22 rfl ?_
      refine ew_aload_n (M := mX10_readText) dX10_readText_23 rfl (Or.inr (Or.inl ⟨_, rfl⟩)) ?_
      refine ew_get (M := mX10_readText) dX10_readText_24 fX10_98 (by repeat (first | with_reducible assumption | refine ex_eq ?_ | refine ex_ne ?_ (by omega) | exact ex_lt (by with_reducible assumption) | rw [List.length_set] | assumption)) (by rfl) ?_
      refine ew_icmp_ge (M := mX10_readText) (tgt := 68) dX10_readText_27 rfl (fun _ => ?_) (fun h => absurd (nI_le (Nat.le_refl _) (by omega)) h)
      refine ew_aload_n (M := mX10_readText) dX10_readText_68 rfl (Or.inr (Or.inl ⟨_, rfl⟩)) ?_
      refine ew_get (M := mX10_readText) dX10_readText_69 fX10_83 (by repeat (first | with_reducible assumption | refine ex_eq ?_ | refine ex_ne ?_ (by omega) | exact ex_lt (by with_reducible assumption) | rw [List.length_set] | assumption)) (by rfl) ?_
      refine ew_if_gt (M := mX10_readText) (tgt := 82) dX10_readText_72 rfl (fun c72 => ?_) (fun c72 => ?_)
      · rw [← nI_0, nI_ltI (by omega) (by omega)] at c72
        have eb : brks z = 1 := by
          unfold brks brk
          rw [if_pos (Or.inl (fun e => by rw [e] at c72; exact absurd c72 (by decide)))]
        rw [eb]
        refine ew_iconst (M := mX10_readText) dX10_readText_82 (v := nI 1) (by decide) ?_
        refine ew_goto (M := mX10_readText) (tgt := 98) dX10_readText_83 rfl ?_
        refine ew_istore_n (M := mX10_readText) dX10_readText_98 (by decide) rfl ?_
        refine ew_aload_n (M := mX10_readText) dX10_readText_99 rfl (Or.inr (Or.inl ⟨_, rfl⟩)) ?_
        refine ew_iload_n (M := mX10_readText) dX10_readText_100 rfl ?_
        refine ew_if_le (M := mX10_readText) (tgt := 111) dX10_readText_101 rfl (fun h => absurd h (by decide)) (fun _ => ?_)
        refine ew_aload_n (M := mX10_readText) dX10_readText_104 rfl (Or.inr (Or.inl ⟨_, rfl⟩)) ?_
        refine ew_get (M := mX10_readText) dX10_readText_105 fX10_98 (by repeat (first | with_reducible assumption | refine ex_eq ?_ | refine ex_ne ?_ (by omega) | exact ex_lt (by with_reducible assumption) | rw [List.length_set] | assumption)) (by rfl) ?_
        refine ew_goto (M := mX10_readText) (tgt := 112) dX10_readText_108 rfl ?_
        refine ew_put (M := mX10_readText) dX10_readText_112 fX10_16 (by repeat (first | with_reducible assumption | refine ex_eq ?_ | refine ex_ne ?_ (by omega) | exact ex_lt (by with_reducible assumption) | rw [List.length_set] | assumption)) (by exact Nat.le_of_ble_eq_true rfl) ⟨rfl, rfl, fun _ h => by cases h⟩ ?_
        refine ew_iload_n (M := mX10_readText) dX10_readText_115 rfl ?_
        refine ew_iret (M := mX10_readText) dX10_readText_116 rfl (by first | rfl | decide) (Nat.le_refl _) (Nat.le_refl _) ?_
        exact ⟨rfl, hc2.set (by simp), _, mo_fa hS2 _⟩
      · rw [← nI_0, nI_ltI (by omega) (by omega)] at c72
        have h0 : mh z.2.2.2.2.1 = 0 := by omega
        rw [mh_z] at h0
        refine ew_aload_n (M := mX10_readText) dX10_readText_75 rfl (Or.inr (Or.inl ⟨_, rfl⟩)) ?_
        refine ew_get (M := mX10_readText) dX10_readText_76 fX10_77 (by repeat (first | with_reducible assumption | refine ex_eq ?_ | refine ex_ne ?_ (by omega) | exact ex_lt (by with_reducible assumption) | rw [List.length_set] | assumption)) (by rfl) ?_
        refine ew_if_ne (M := mX10_readText) (tgt := 86) dX10_readText_79 rfl (fun c79 => ?_) (fun c79 => ?_)
        · rw [nI_z (by omega)] at c79
          by_cases hs : 0 < z.2.1 ∧ z.2.2.1 < z.2.2.2.1
          · have eb : brks z = 2 := by
              unfold brks brk
              rw [if_neg (by omega), if_pos hs]
            rw [eb]
            refine ew_aload_n (M := mX10_readText) dX10_readText_86 rfl (Or.inr (Or.inl ⟨_, rfl⟩)) ?_
            refine ew_callV (M := mX10_readText) dX10_readText_87 vX10_86 (by repeat (first | with_reducible assumption | refine ex_eq ?_ | refine ex_ne ?_ (by omega) | exact ex_lt (by with_reducible assumption) | rw [List.length_set] | assumption)) rfl (ms_isShort hS2 hb) rfl (Nat.le_of_ble_eq_true rfl) ⟨Nat.le_refl _, Nat.le_refl _⟩ rfl (fun H87 r87 q87 => ?_)
            obtain ⟨rfl, rfl⟩ := q87
            rw [if_pos hs]
            refine ew_if_eq (M := mX10_readText) (tgt := 97) dX10_readText_90 rfl (fun h => absurd h (by decide)) (fun _ => ?_)
            refine ew_iconst (M := mX10_readText) dX10_readText_93 (v := nI 2) (by decide) ?_
            refine ew_goto (M := mX10_readText) (tgt := 98) dX10_readText_94 rfl ?_
            refine ew_istore_n (M := mX10_readText) dX10_readText_98 (by decide) rfl ?_
            refine ew_aload_n (M := mX10_readText) dX10_readText_99 rfl (Or.inr (Or.inl ⟨_, rfl⟩)) ?_
            refine ew_iload_n (M := mX10_readText) dX10_readText_100 rfl ?_
            refine ew_if_le (M := mX10_readText) (tgt := 111) dX10_readText_101 rfl (fun h => absurd h (by decide)) (fun _ => ?_)
            refine ew_aload_n (M := mX10_readText) dX10_readText_104 rfl (Or.inr (Or.inl ⟨_, rfl⟩)) ?_
            refine ew_get (M := mX10_readText) dX10_readText_105 fX10_98 (by repeat (first | with_reducible assumption | refine ex_eq ?_ | refine ex_ne ?_ (by omega) | exact ex_lt (by with_reducible assumption) | rw [List.length_set] | assumption)) (by rfl) ?_
            refine ew_goto (M := mX10_readText) (tgt := 112) dX10_readText_108 rfl ?_
            refine ew_put (M := mX10_readText) dX10_readText_112 fX10_16 (by repeat (first | with_reducible assumption | refine ex_eq ?_ | refine ex_ne ?_ (by omega) | exact ex_lt (by with_reducible assumption) | rw [List.length_set] | assumption)) (by exact Nat.le_of_ble_eq_true rfl) ⟨rfl, rfl, fun _ h => by cases h⟩ ?_
            refine ew_iload_n (M := mX10_readText) dX10_readText_115 rfl ?_
            refine ew_iret (M := mX10_readText) dX10_readText_116 rfl (by first | rfl | decide) (Nat.le_refl _) (Nat.le_refl _) ?_
            exact ⟨rfl, hc2.set (by simp), _, mo_fa hS2 _⟩
          · have eb : brks z = 0 := by
              unfold brks brk
              rw [if_neg (by omega), if_neg hs]
            rw [eb]
            refine ew_aload_n (M := mX10_readText) dX10_readText_86 rfl (Or.inr (Or.inl ⟨_, rfl⟩)) ?_
            refine ew_callV (M := mX10_readText) dX10_readText_87 vX10_86 (by repeat (first | with_reducible assumption | refine ex_eq ?_ | refine ex_ne ?_ (by omega) | exact ex_lt (by with_reducible assumption) | rw [List.length_set] | assumption)) rfl (ms_isShort hS2 hb) rfl (Nat.le_of_ble_eq_true rfl) ⟨Nat.le_refl _, Nat.le_refl _⟩ rfl (fun H87 r87 q87 => ?_)
            obtain ⟨rfl, rfl⟩ := q87
            rw [if_neg hs]
            refine ew_if_eq (M := mX10_readText) (tgt := 97) dX10_readText_90 rfl (fun _ => ?_) (fun h => absurd (by decide) h)
            refine ew_iconst (M := mX10_readText) dX10_readText_97 (v := nI 0) (by decide) ?_
            refine ew_istore_n (M := mX10_readText) dX10_readText_98 (by decide) rfl ?_
            refine ew_aload_n (M := mX10_readText) dX10_readText_99 rfl (Or.inr (Or.inl ⟨_, rfl⟩)) ?_
            refine ew_iload_n (M := mX10_readText) dX10_readText_100 rfl ?_
            refine ew_if_le (M := mX10_readText) (tgt := 111) dX10_readText_101 rfl (fun _ => ?_) (fun h => absurd (by decide) h)
            refine ew_iconst (M := mX10_readText) dX10_readText_111 (v := (-1)) (by decide) ?_
            refine ew_put (M := mX10_readText) dX10_readText_112 fX10_16 (by repeat (first | with_reducible assumption | refine ex_eq ?_ | refine ex_ne ?_ (by omega) | exact ex_lt (by with_reducible assumption) | rw [List.length_set] | assumption)) (by exact Nat.le_of_ble_eq_true rfl) ⟨rfl, rfl, fun _ h => by cases h⟩ ?_
            refine ew_iload_n (M := mX10_readText) dX10_readText_115 rfl ?_
            refine ew_iret (M := mX10_readText) dX10_readText_116 rfl (by first | rfl | decide) (Nat.le_refl _) (Nat.le_refl _) ?_
            exact ⟨rfl, hc2.set (by simp), _, mo_fa hS2 _⟩
        · rw [nI_z (by omega)] at c79
          have eb : brks z = 1 := by
            unfold brks brk
            rw [if_pos (Or.inr c79)]
          rw [eb]
          refine ew_iconst (M := mX10_readText) dX10_readText_82 (v := nI 1) (by decide) ?_
          refine ew_goto (M := mX10_readText) (tgt := 98) dX10_readText_83 rfl ?_
          refine ew_istore_n (M := mX10_readText) dX10_readText_98 (by decide) rfl ?_
          refine ew_aload_n (M := mX10_readText) dX10_readText_99 rfl (Or.inr (Or.inl ⟨_, rfl⟩)) ?_
          refine ew_iload_n (M := mX10_readText) dX10_readText_100 rfl ?_
          refine ew_if_le (M := mX10_readText) (tgt := 111) dX10_readText_101 rfl (fun h => absurd h (by decide)) (fun _ => ?_)
          refine ew_aload_n (M := mX10_readText) dX10_readText_104 rfl (Or.inr (Or.inl ⟨_, rfl⟩)) ?_
          refine ew_get (M := mX10_readText) dX10_readText_105 fX10_98 (by repeat (first | with_reducible assumption | refine ex_eq ?_ | refine ex_ne ?_ (by omega) | exact ex_lt (by with_reducible assumption) | rw [List.length_set] | assumption)) (by rfl) ?_
          refine ew_goto (M := mX10_readText) (tgt := 112) dX10_readText_108 rfl ?_
          refine ew_put (M := mX10_readText) dX10_readText_112 fX10_16 (by repeat (first | with_reducible assumption | refine ex_eq ?_ | refine ex_ne ?_ (by omega) | exact ex_lt (by with_reducible assumption) | rw [List.length_set] | assumption)) (by exact Nat.le_of_ble_eq_true rfl) ⟨rfl, rfl, fun _ h => by cases h⟩ ?_
          refine ew_iload_n (M := mX10_readText) dX10_readText_115 rfl ?_
          refine ew_iret (M := mX10_readText) dX10_readText_116 rfl (by first | rfl | decide) (Nat.le_refl _) (Nat.le_refl _) ?_
          exact ⟨rfl, hc2.set (by simp), _, mo_fa hS2 _⟩
    | succ m ih =>
      intro k z H2 hk hz hc2 hS2
      obtain ⟨b1, -, -, ⟨T2, b3, -, btx⟩, -⟩ := id hS2
      obtain ⟨ht1, ht2⟩ := btx k (by omega)
      have hb := rdb_st hz
      have hok := rd_st_ok k z hz
      have hfl3 := rd_fs_lt z (S.1.2 k)
      by_cases hf0 : rd_fs z (S.1.2 k) = 0
      · have hz1 := rd_st_s hz hf0
        refine ew_iload_n (M := mX10_readText) dX10_readText_22 rfl ?_
        refine ew_aload_n (M := mX10_readText) dX10_readText_23 rfl (Or.inr (Or.inl ⟨_, rfl⟩)) ?_
        refine ew_get (M := mX10_readText) dX10_readText_24 fX10_98 (by repeat (first | with_reducible assumption | refine ex_eq ?_ | refine ex_ne ?_ (by omega) | exact ex_lt (by with_reducible assumption) | rw [List.length_set] | assumption)) (by rfl) ?_
        refine ew_icmp_ge (M := mX10_readText) (tgt := 68) dX10_readText_27 rfl (fun h => absurd h (nI_ge (by omega) (by omega))) (fun _ => ?_)
        refine ew_aload_n (M := mX10_readText) dX10_readText_30 rfl (Or.inr (Or.inl ⟨_, rfl⟩)) ?_
        refine ew_aload_n (M := mX10_readText) dX10_readText_31 rfl (Or.inr (Or.inl ⟨_, rfl⟩)) ?_
        refine ew_get (M := mX10_readText) dX10_readText_32 fX10_13 (by repeat (first | with_reducible assumption | refine ex_eq ?_ | refine ex_ne ?_ (by omega) | exact ex_lt (by with_reducible assumption) | rw [List.length_set] | assumption)) (by rfl) ?_
        refine ew_iload_n (M := mX10_readText) dX10_readText_35 rfl ?_
        refine ew_iald (M := mX10_readText) k dX10_readText_36 (by repeat (first | with_reducible assumption | refine ex_eq ?_ | refine ex_ne ?_ (by omega) | exact ex_lt (by with_reducible assumption) | rw [List.length_set] | assumption)) ⟨rfl, by omega, by decide⟩ ?_
        rw [ht1]
        refine ew_callV (M := mX10_readText) dX10_readText_37 vX10_101 (by repeat (first | with_reducible assumption | refine ex_eq ?_ | refine ex_ne ?_ (by omega) | exact ex_lt (by with_reducible assumption) | rw [List.length_set] | assumption)) rfl (ms_faultOf hS2 hb hok.2.1 ht2) rfl (Nat.le_of_ble_eq_true rfl) ⟨Nat.le_refl _, Nat.le_refl _⟩ rfl (fun H37 r37 q37 => ?_)
        obtain ⟨rfl, rfl⟩ := q37
        change ex_W _ _ _ _ _ _ _ _ (.int (nI (rd_fs z (S.1.2 k))) :: _) _ _
        rw [hf0]
        refine ew_istore_n (M := mX10_readText) dX10_readText_40 (by decide) rfl ?_
        refine ew_iload_n (M := mX10_readText) dX10_readText_41 rfl ?_
        refine ew_if_le (M := mX10_readText) (tgt := 52) dX10_readText_42 rfl (fun _ => ?_) (fun h => absurd (by decide) h)
        refine ew_aload_n (M := mX10_readText) dX10_readText_52 rfl (Or.inr (Or.inl ⟨_, rfl⟩)) ?_
        refine ew_aload_n (M := mX10_readText) dX10_readText_53 rfl (Or.inr (Or.inl ⟨_, rfl⟩)) ?_
        refine ew_get (M := mX10_readText) dX10_readText_54 fX10_13 (by repeat (first | with_reducible assumption | refine ex_eq ?_ | refine ex_ne ?_ (by omega) | exact ex_lt (by with_reducible assumption) | rw [List.length_set] | assumption)) (by rfl) ?_
        refine ew_iload_n (M := mX10_readText) dX10_readText_57 rfl ?_
        refine ew_iald (M := mX10_readText) k dX10_readText_58 (by repeat (first | with_reducible assumption | refine ex_eq ?_ | refine ex_ne ?_ (by omega) | exact ex_lt (by with_reducible assumption) | rw [List.length_set] | assumption)) ⟨rfl, by omega, by decide⟩ ?_
        rw [ht1]
        refine ew_callV (M := mX10_readText) dX10_readText_59 vX10_104 (by repeat (first | with_reducible assumption | refine ex_eq ?_ | refine ex_ne ?_ (by omega) | exact ex_lt (by with_reducible assumption) | rw [List.length_set] | assumption)) rfl (ms_goOn hS2 hb ht2 hf0) rfl (Nat.le_of_ble_eq_true rfl) ⟨Nat.le_refl _, Nat.le_refl _⟩ rfl (fun H59 r59 q59 => ?_)
        obtain ⟨rfl, hc3, hS3⟩ := q59
        refine ew_iinc (M := mX10_readText) dX10_readText_62 rfl (ex_inc k) (by decide) rfl ?_
        refine ew_goto (M := mX10_readText) (tgt := 22) dX10_readText_65 rfl ?_
        refine ew_ls _ ?_ (ih (k + 1) (rd_n z (S.1.2 k)) _ (by omega) hz1 (hc2.tr hc3 (by simp)) hS3)
        exact ⟨rfl, rfl, trivial⟩
      · have ef : rd_fault S.1.2 S.1.1 = (rd_fs z (S.1.2 k), k) := rd_fs_ne hz hf0 (by omega)
        rw [ef]
        dsimp only
        rw [if_neg hf0]
        refine ew_iload_n (M := mX10_readText) dX10_readText_22 rfl ?_
        refine ew_aload_n (M := mX10_readText) dX10_readText_23 rfl (Or.inr (Or.inl ⟨_, rfl⟩)) ?_
        refine ew_get (M := mX10_readText) dX10_readText_24 fX10_98 (by repeat (first | with_reducible assumption | refine ex_eq ?_ | refine ex_ne ?_ (by omega) | exact ex_lt (by with_reducible assumption) | rw [List.length_set] | assumption)) (by rfl) ?_
        refine ew_icmp_ge (M := mX10_readText) (tgt := 68) dX10_readText_27 rfl (fun h => absurd h (nI_ge (by omega) (by omega))) (fun _ => ?_)
        refine ew_aload_n (M := mX10_readText) dX10_readText_30 rfl (Or.inr (Or.inl ⟨_, rfl⟩)) ?_
        refine ew_aload_n (M := mX10_readText) dX10_readText_31 rfl (Or.inr (Or.inl ⟨_, rfl⟩)) ?_
        refine ew_get (M := mX10_readText) dX10_readText_32 fX10_13 (by repeat (first | with_reducible assumption | refine ex_eq ?_ | refine ex_ne ?_ (by omega) | exact ex_lt (by with_reducible assumption) | rw [List.length_set] | assumption)) (by rfl) ?_
        refine ew_iload_n (M := mX10_readText) dX10_readText_35 rfl ?_
        refine ew_iald (M := mX10_readText) k dX10_readText_36 (by repeat (first | with_reducible assumption | refine ex_eq ?_ | refine ex_ne ?_ (by omega) | exact ex_lt (by with_reducible assumption) | rw [List.length_set] | assumption)) ⟨rfl, by omega, by decide⟩ ?_
        rw [ht1]
        refine ew_callV (M := mX10_readText) dX10_readText_37 vX10_101 (by repeat (first | with_reducible assumption | refine ex_eq ?_ | refine ex_ne ?_ (by omega) | exact ex_lt (by with_reducible assumption) | rw [List.length_set] | assumption)) rfl (ms_faultOf hS2 hb hok.2.1 ht2) rfl (Nat.le_of_ble_eq_true rfl) ⟨Nat.le_refl _, Nat.le_refl _⟩ rfl (fun H37 r37 q37 => ?_)
        obtain ⟨rfl, rfl⟩ := q37
        change ex_W _ _ _ _ _ _ _ _ (.int (nI (rd_fs z (S.1.2 k))) :: _) _ _
        skip
        refine ew_istore_n (M := mX10_readText) dX10_readText_40 (by decide) rfl ?_
        refine ew_iload_n (M := mX10_readText) dX10_readText_41 rfl ?_
        refine ew_if_le (M := mX10_readText) (tgt := 52) dX10_readText_42 rfl (fun h => absurd h (nI_nle (by omega) hfl3)) (fun _ => ?_)
        refine ew_aload_n (M := mX10_readText) dX10_readText_45 rfl (Or.inr (Or.inl ⟨_, rfl⟩)) ?_
        refine ew_iload_n (M := mX10_readText) dX10_readText_46 rfl ?_
        refine ew_put (M := mX10_readText) dX10_readText_47 fX10_16 (by repeat (first | with_reducible assumption | refine ex_eq ?_ | refine ex_ne ?_ (by omega) | exact ex_lt (by with_reducible assumption) | rw [List.length_set] | assumption)) (by exact Nat.le_of_ble_eq_true rfl) ⟨rfl, rfl, fun _ h => by cases h⟩ ?_
        refine ew_iload_n (M := mX10_readText) dX10_readText_50 rfl ?_
        refine ew_iret (M := mX10_readText) dX10_readText_51 rfl (by first | rfl | decide) (Nat.le_refl _) (Nat.le_refl _) ?_
        exact ⟨rfl, hc2.set (by simp), _, mo_fa hS2 _⟩
  refine ew_ls _ ?_ (key S.1.1 0 (0, 0, 0, 0, 0, fun _ => 0, fun _ => 0) (H.set 86 (mob (nI S.2.2.2.2.2.1.1) (nI (S.2.2.2.1 0 + 2 * S.2.2.2.1 1)) (nI S.2.2.1.2.2.2) (nI S.1.1) S.2.1 (nI S.2.2.1.2.2.1) (nI S.2.2.2.2.2.2.1) (nI 0) (nI 0) (nI 0) (nI 0) mn)) (by omega) rfl (ex_ch.rf.set (by simp)) hS0)
  exact ⟨rfl, rfl, trivial⟩
