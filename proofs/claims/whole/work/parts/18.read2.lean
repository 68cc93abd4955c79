theorem sp_takeFirstSign_f {d : Nat} {H : ex_H} {a p D r c wd hf : Nat} (ha : re_is H a p D r c wd hf) (hok : rd_ok D r c wd hf) {s : Nat} (hc : ¬ c < rdW r wd) : ex_Met mX5_takeFirstSign d 0 0 H [.ref a, .int (nI s)] (ex_r H (.int (nI 2))) := by
  obtain ⟨h1, h2, h3, h4, h5, h6, h7⟩ := id hok
  unfold re_is at ha
  refine ex_meth [(0, .ref a), (1, .int (nI s))] rfl rfl rfl (fun b => Nat.le_of_ble_eq_true rfl) ?_
  refine ew_aload_n (M := mX5_takeFirstSign) dX5_takeFirstSign_0 rfl (Or.inr (Or.inl ⟨_, rfl⟩)) ?_
  refine ew_get (M := mX5_takeFirstSign) dX5_takeFirstSign_1 fX5_21 (by repeat (first | with_reducible assumption | refine ex_eq ?_ | refine ex_ne ?_ (by omega) | exact ex_lt (by with_reducible assumption) | rw [List.length_set] | assumption)) (by rfl) ?_
  refine ew_aload_n (M := mX5_takeFirstSign) dX5_takeFirstSign_4 rfl (Or.inr (Or.inl ⟨_, rfl⟩)) ?_
  refine ew_get (M := mX5_takeFirstSign) dX5_takeFirstSign_5 fX5_15 (by repeat (first | with_reducible assumption | refine ex_eq ?_ | refine ex_ne ?_ (by omega) | exact ex_lt (by with_reducible assumption) | rw [List.length_set] | assumption)) (by rfl) ?_
  refine ew_icmp_lt (M := mX5_takeFirstSign) (tgt := 13) dX5_takeFirstSign_8 rfl (fun h => absurd h (nI_nlt (by omega) (by omega))) (fun _ => ?_)
  refine ew_iconst (M := mX5_takeFirstSign) dX5_takeFirstSign_11 (v := nI 2) (by decide) ?_
  refine ew_iret (M := mX5_takeFirstSign) dX5_takeFirstSign_12 rfl (by first | rfl | decide) (Nat.le_refl _) (Nat.le_refl _) ?_
  exact ⟨rfl, rfl⟩
theorem sp_takeFirstSign {d : Nat} {H : ex_H} {a p D r c wd hf : Nat} (ha : re_is H a p D r c wd hf) (hok : rd_ok D r c wd hf) {s : Nat} (hc : c < rdW r wd) : ex_Met mX5_takeFirstSign d 0 0 H [.ref a, .int (nI s)] (fun H' y => y = some (.int (nI 0)) ∧ ex_ch H H' [a] ∧ re_is H' a p D r c wd (s + 1)) := by
  obtain ⟨h1, h2, h3, h4, h5, h6, h7⟩ := id hok
  unfold re_is at ha
  refine ex_meth [(0, .ref a), (1, .int (nI s))] rfl rfl rfl (fun b => Nat.le_of_ble_eq_true rfl) ?_
  refine ew_aload_n (M := mX5_takeFirstSign) dX5_takeFirstSign_0 rfl (Or.inr (Or.inl ⟨_, rfl⟩)) ?_
  refine ew_get (M := mX5_takeFirstSign) dX5_takeFirstSign_1 fX5_21 (by repeat (first | with_reducible assumption | refine ex_eq ?_ | refine ex_ne ?_ (by omega) | exact ex_lt (by with_reducible assumption) | rw [List.length_set] | assumption)) (by rfl) ?_
  refine ew_aload_n (M := mX5_takeFirstSign) dX5_takeFirstSign_4 rfl (Or.inr (Or.inl ⟨_, rfl⟩)) ?_
  refine ew_get (M := mX5_takeFirstSign) dX5_takeFirstSign_5 fX5_15 (by repeat (first | with_reducible assumption | refine ex_eq ?_ | refine ex_ne ?_ (by omega) | exact ex_lt (by with_reducible assumption) | rw [List.length_set] | assumption)) (by rfl) ?_
  refine ew_icmp_lt (M := mX5_takeFirstSign) (tgt := 13) dX5_takeFirstSign_8 rfl (fun _ => ?_) (fun h => absurd (nI_lt hc (by omega)) h)
  refine ew_aload_n (M := mX5_takeFirstSign) dX5_takeFirstSign_13 rfl (Or.inr (Or.inl ⟨_, rfl⟩)) ?_
  refine ew_iload_n (M := mX5_takeFirstSign) dX5_takeFirstSign_14 rfl ?_
  refine ew_put (M := mX5_takeFirstSign) dX5_takeFirstSign_15 fX5_24 (by repeat (first | with_reducible assumption | refine ex_eq ?_ | refine ex_ne ?_ (by omega) | exact ex_lt (by with_reducible assumption) | rw [List.length_set] | assumption)) (by exact Nat.le_of_ble_eq_true rfl) ⟨rfl, rfl, fun _ h => by cases h⟩ ?_
  refine ew_iconst (M := mX5_takeFirstSign) dX5_takeFirstSign_18 (v := nI 0) (by decide) ?_
  refine ew_iret (M := mX5_takeFirstSign) dX5_takeFirstSign_19 rfl (by first | rfl | decide) (Nat.le_refl _) (Nat.le_refl _) ?_
  exact ⟨rfl, ex_ch.rf.set (by simp), ex_eq (ex_lt ha)⟩
theorem sp_takeSecondSign_f {d : Nat} {H : ex_H} {a p D r c wd hf : Nat} (ha : re_is H a p D r c wd hf) (hok : rd_ok D r c wd hf) {s : Nat} (hs : s ≤ 16) (hh : 0 < hf) (hm : ¬ (hf = 17 ↔ s = 16)) : ex_Met mX5_takeSecondSign (d + 2) 0 0 H [.ref a, .int (nI s)] (ex_r H (.int (nI 1))) := by
  obtain ⟨h1, h2, h3, h4, h5, h6, h7⟩ := id hok
  unfold re_is at ha
  have e5 : fsI hf = nI (hf - 1) := if_neg (by omega)
  rw [e5] at ha
  refine ex_meth [(0, .ref a), (1, .int (nI s))] rfl rfl rfl (fun b => Nat.le_of_ble_eq_true rfl) ?_
  refine ew_aload_n (M := mX5_takeSecondSign) dX5_takeSecondSign_0 rfl (Or.inr (Or.inl ⟨_, rfl⟩)) ?_
  refine ew_get (M := mX5_takeSecondSign) dX5_takeSecondSign_1 fX5_24 (by repeat (first | with_reducible assumption | refine ex_eq ?_ | refine ex_ne ?_ (by omega) | exact ex_lt (by with_reducible assumption) | rw [List.length_set] | assumption)) (by rfl) ?_
  refine ew_bipush (M := mX5_takeSecondSign) dX5_takeSecondSign_4 (v := nI 16) (by decide) ?_
  refine ew_icmp_ne (M := mX5_takeSecondSign) (tgt := 13) dX5_takeSecondSign_6 rfl (fun c6 => ?_) (fun c6 => ?_)
  · rw [nI_eq (by omega) (by decide)] at c6
    refine ew_iconst (M := mX5_takeSecondSign) dX5_takeSecondSign_13 (v := nI 0) (by decide) ?_
    refine ew_istore_n (M := mX5_takeSecondSign) dX5_takeSecondSign_14 (by decide) rfl ?_
    refine ew_iload_n (M := mX5_takeSecondSign) dX5_takeSecondSign_15 rfl ?_
    refine ew_iload_n (M := mX5_takeSecondSign) dX5_takeSecondSign_16 rfl ?_
    refine ew_bipush (M := mX5_takeSecondSign) dX5_takeSecondSign_17 (v := nI 16) (by decide) ?_
    refine ew_icmp_ne (M := mX5_takeSecondSign) (tgt := 26) dX5_takeSecondSign_19 rfl (fun c19 => ?_) (fun c19 => ?_)
    · rw [nI_eq (by omega) (by decide)] at c19
      refine ew_iconst (M := mX5_takeSecondSign) dX5_takeSecondSign_26 (v := nI 0) (by decide) ?_
      refine ew_icmp_eq (M := mX5_takeSecondSign) (tgt := 32) dX5_takeSecondSign_27 rfl (fun c27 => ?_) (fun c27 => ?_)
      · first | exact absurd c27 (by decide) | (exfalso; omega)
      · refine ew_iconst (M := mX5_takeSecondSign) dX5_takeSecondSign_30 (v := nI 1) (by decide) ?_
        refine ew_iret (M := mX5_takeSecondSign) dX5_takeSecondSign_31 rfl (by first | rfl | decide) (Nat.le_refl _) (Nat.le_refl _) ?_
        exact ⟨rfl, rfl⟩
    · rw [nI_eq (by omega) (by decide)] at c19
      refine ew_iconst (M := mX5_takeSecondSign) dX5_takeSecondSign_22 (v := nI 1) (by decide) ?_
      refine ew_goto (M := mX5_takeSecondSign) (tgt := 27) dX5_takeSecondSign_23 rfl ?_
      refine ew_icmp_eq (M := mX5_takeSecondSign) (tgt := 32) dX5_takeSecondSign_27 rfl (fun c27 => ?_) (fun c27 => ?_)
      · first | exact absurd c27 (by decide) | (exfalso; omega)
      · refine ew_iconst (M := mX5_takeSecondSign) dX5_takeSecondSign_30 (v := nI 1) (by decide) ?_
        refine ew_iret (M := mX5_takeSecondSign) dX5_takeSecondSign_31 rfl (by first | rfl | decide) (Nat.le_refl _) (Nat.le_refl _) ?_
        exact ⟨rfl, rfl⟩
  · rw [nI_eq (by omega) (by decide)] at c6
    refine ew_iconst (M := mX5_takeSecondSign) dX5_takeSecondSign_9 (v := nI 1) (by decide) ?_
    refine ew_goto (M := mX5_takeSecondSign) (tgt := 14) dX5_takeSecondSign_10 rfl ?_
    refine ew_istore_n (M := mX5_takeSecondSign) dX5_takeSecondSign_14 (by decide) rfl ?_
    refine ew_iload_n (M := mX5_takeSecondSign) dX5_takeSecondSign_15 rfl ?_
    refine ew_iload_n (M := mX5_takeSecondSign) dX5_takeSecondSign_16 rfl ?_
    refine ew_bipush (M := mX5_takeSecondSign) dX5_takeSecondSign_17 (v := nI 16) (by decide) ?_
    refine ew_icmp_ne (M := mX5_takeSecondSign) (tgt := 26) dX5_takeSecondSign_19 rfl (fun c19 => ?_) (fun c19 => ?_)
    · rw [nI_eq (by omega) (by decide)] at c19
      refine ew_iconst (M := mX5_takeSecondSign) dX5_takeSecondSign_26 (v := nI 0) (by decide) ?_
      refine ew_icmp_eq (M := mX5_takeSecondSign) (tgt := 32) dX5_takeSecondSign_27 rfl (fun c27 => ?_) (fun c27 => ?_)
      · first | exact absurd c27 (by decide) | (exfalso; omega)
      · refine ew_iconst (M := mX5_takeSecondSign) dX5_takeSecondSign_30 (v := nI 1) (by decide) ?_
        refine ew_iret (M := mX5_takeSecondSign) dX5_takeSecondSign_31 rfl (by first | rfl | decide) (Nat.le_refl _) (Nat.le_refl _) ?_
        exact ⟨rfl, rfl⟩
    · rw [nI_eq (by omega) (by decide)] at c19
      refine ew_iconst (M := mX5_takeSecondSign) dX5_takeSecondSign_22 (v := nI 1) (by decide) ?_
      refine ew_goto (M := mX5_takeSecondSign) (tgt := 27) dX5_takeSecondSign_23 rfl ?_
      refine ew_icmp_eq (M := mX5_takeSecondSign) (tgt := 32) dX5_takeSecondSign_27 rfl (fun c27 => ?_) (fun c27 => ?_)
      · first | exact absurd c27 (by decide) | (exfalso; omega)
      · refine ew_iconst (M := mX5_takeSecondSign) dX5_takeSecondSign_30 (v := nI 1) (by decide) ?_
        refine ew_iret (M := mX5_takeSecondSign) dX5_takeSecondSign_31 rfl (by first | rfl | decide) (Nat.le_refl _) (Nat.le_refl _) ?_
        exact ⟨rfl, rfl⟩
theorem sp_takeSecondSign {d : Nat} {H : ex_H} {a p D r c wd hf : Nat} (ha : re_is H a p D r c wd hf) (hok : rd_ok D r c wd hf) {s : Nat} {g m : Nat → Nat} (hp : rd_pi H p D g m) (hap : a < p ∨ p + 2 < a) (hs : s ≤ 16) (hh : 0 < hf) (hm : hf = 17 ↔ s = 16) : ex_Met mX5_takeSecondSign (d + 2) 0 0 H [.ref a, .int (nI s)] (fun H' y => y = some (.int (nI 0)) ∧ ex_ch H H' [a, p + 1, p + 2] ∧ re_is H' a p (D + 1) r (c + 1) wd 0 ∧ rd_pi H' p (D + 1) (va_up g D (if hf = 17 then 0 else (hf - 1) * 16 + s)) (va_up m D (if hf = 17 then 1 else 0))) := by
  obtain ⟨h1, h2, h3, h4, h5, h6, h7⟩ := id hok
  unfold re_is at ha
  have e5 : fsI hf = nI (hf - 1) := if_neg (by omega)
  rw [e5] at ha
  have hD := rd_80 hok (h6 hh)
  obtain ⟨w0, h0, gs, ms, hp0, hgm⟩ := hp
  obtain ⟨hp1, hp2, hp3⟩ := id hp0
  refine ex_meth [(0, .ref a), (1, .int (nI s))] rfl rfl rfl (fun b => Nat.le_of_ble_eq_true rfl) ?_
  by_cases e17 : hf = 17
  · have e16 := hm.mp e17
    subst e17 e16
    rw [if_pos rfl, if_pos rfl]
    refine ew_aload_n (M := mX5_takeSecondSign) dX5_takeSecondSign_0 rfl (Or.inr (Or.inl ⟨_, rfl⟩)) ?_
    refine ew_get (M := mX5_takeSecondSign) dX5_takeSecondSign_1 fX5_24 (by repeat (first | with_reducible assumption | refine ex_eq ?_ | refine ex_ne ?_ (by omega) | exact ex_lt (by with_reducible assumption) | rw [List.length_set] | assumption)) (by rfl) ?_
    refine ew_bipush (M := mX5_takeSecondSign) dX5_takeSecondSign_4 (v := nI 16) (by decide) ?_
    refine ew_icmp_ne (M := mX5_takeSecondSign) (tgt := 13) dX5_takeSecondSign_6 rfl (fun h => absurd rfl h) (fun _ => ?_)
    refine ew_iconst (M := mX5_takeSecondSign) dX5_takeSecondSign_9 (v := nI 1) (by decide) ?_
    refine ew_goto (M := mX5_takeSecondSign) (tgt := 14) dX5_takeSecondSign_10 rfl ?_
    refine ew_istore_n (M := mX5_takeSecondSign) dX5_takeSecondSign_14 (by decide) rfl ?_
    refine ew_iload_n (M := mX5_takeSecondSign) dX5_takeSecondSign_15 rfl ?_
    refine ew_iload_n (M := mX5_takeSecondSign) dX5_takeSecondSign_16 rfl ?_
    refine ew_bipush (M := mX5_takeSecondSign) dX5_takeSecondSign_17 (v := nI 16) (by decide) ?_
    refine ew_icmp_ne (M := mX5_takeSecondSign) (tgt := 26) dX5_takeSecondSign_19 rfl (fun h => absurd rfl h) (fun _ => ?_)
    refine ew_iconst (M := mX5_takeSecondSign) dX5_takeSecondSign_22 (v := nI 1) (by decide) ?_
    refine ew_goto (M := mX5_takeSecondSign) (tgt := 27) dX5_takeSecondSign_23 rfl ?_
    refine ew_icmp_eq (M := mX5_takeSecondSign) (tgt := 32) dX5_takeSecondSign_27 rfl (fun _ => ?_) (fun h => absurd rfl h)
    refine ew_aload_n (M := mX5_takeSecondSign) dX5_takeSecondSign_32 rfl (Or.inr (Or.inl ⟨_, rfl⟩)) ?_
    refine ew_get (M := mX5_takeSecondSign) dX5_takeSecondSign_33 fX5_27 (by repeat (first | with_reducible assumption | refine ex_eq ?_ | refine ex_ne ?_ (by omega) | exact ex_lt (by with_reducible assumption) | rw [List.length_set] | assumption)) (by rfl) ?_
    refine ew_aload_n (M := mX5_takeSecondSign) dX5_takeSecondSign_36 rfl (Or.inr (Or.inl ⟨_, rfl⟩)) ?_
    refine ew_get (M := mX5_takeSecondSign) dX5_takeSecondSign_37 fX5_9 (by repeat (first | with_reducible assumption | refine ex_eq ?_ | refine ex_ne ?_ (by omega) | exact ex_lt (by with_reducible assumption) | rw [List.length_set] | assumption)) (by rfl) ?_
    refine ew_iload_n (M := mX5_takeSecondSign) dX5_takeSecondSign_40 rfl ?_
    refine ew_if_eq (M := mX5_takeSecondSign) (tgt := 48) dX5_takeSecondSign_41 rfl (fun h => absurd h (by decide)) (fun _ => ?_)
    refine ew_iconst (M := mX5_takeSecondSign) dX5_takeSecondSign_44 (v := nI 0) (by decide) ?_
    refine ew_goto (M := mX5_takeSecondSign) (tgt := 57) dX5_takeSecondSign_45 rfl ?_
    refine ew_iload_n (M := mX5_takeSecondSign) dX5_takeSecondSign_57 rfl ?_
    refine ew_callV (M := mX5_takeSecondSign) dX5_takeSecondSign_58 vX5_51 (by repeat (first | with_reducible assumption | refine ex_eq ?_ | refine ex_ne ?_ (by omega) | exact ex_lt (by with_reducible assumption) | rw [List.length_set] | assumption)) rfl (sp_setInOrder (p := p) (gs := gs) (ms := ms) (w := w0) (h := h0) (k := D) (v := 1) (x := nI 0) hp0 hD (by decide)) rfl (Nat.le_of_ble_eq_true rfl) ⟨Nat.le_refl _, Nat.le_refl _⟩ rfl (fun H58 r58 q58 => ?_)
    obtain ⟨rfl, hc1, hp4⟩ := q58
    have ha4 := hc1.at ha (by simp; omega)
    obtain ⟨hp41, hp42, hp43⟩ := id hp4
    refine ew_aload_n (M := mX5_takeSecondSign) dX5_takeSecondSign_61 rfl (Or.inr (Or.inl ⟨_, rfl⟩)) ?_
    refine ew_dup (M := mX5_takeSecondSign) dX5_takeSecondSign_62 rfl ?_
    refine ew_get (M := mX5_takeSecondSign) dX5_takeSecondSign_63 fX5_9 (by repeat (first | with_reducible assumption | refine ex_eq ?_ | refine ex_ne ?_ (by omega) | exact ex_lt (by with_reducible assumption) | rw [List.length_set] | assumption)) (by rfl) ?_
    refine ew_iconst (M := mX5_takeSecondSign) dX5_takeSecondSign_66 (v := nI 1) (by decide) ?_
    refine ew_iadd (M := mX5_takeSecondSign) dX5_takeSecondSign_67 ?_
    rw [nI_add]
    refine ew_put (M := mX5_takeSecondSign) dX5_takeSecondSign_68 fX5_9 (by repeat (first | with_reducible assumption | refine ex_eq ?_ | refine ex_ne ?_ (by omega) | exact ex_lt (by with_reducible assumption) | rw [List.length_set] | assumption)) (by exact Nat.le_of_ble_eq_true rfl) ⟨rfl, rfl, fun _ h => by cases h⟩ ?_
    refine ew_aload_n (M := mX5_takeSecondSign) dX5_takeSecondSign_71 rfl (Or.inr (Or.inl ⟨_, rfl⟩)) ?_
    refine ew_dup (M := mX5_takeSecondSign) dX5_takeSecondSign_72 rfl ?_
    refine ew_get (M := mX5_takeSecondSign) dX5_takeSecondSign_73 fX5_21 (by repeat (first | with_reducible assumption | refine ex_eq ?_ | refine ex_ne ?_ (by omega) | exact ex_lt (by with_reducible assumption) | rw [List.length_set] | assumption)) (by rfl) ?_
    refine ew_iconst (M := mX5_takeSecondSign) dX5_takeSecondSign_76 (v := nI 1) (by decide) ?_
    refine ew_iadd (M := mX5_takeSecondSign) dX5_takeSecondSign_77 ?_
    rw [nI_add]
    refine ew_put (M := mX5_takeSecondSign) dX5_takeSecondSign_78 fX5_21 (by repeat (first | with_reducible assumption | refine ex_eq ?_ | refine ex_ne ?_ (by omega) | exact ex_lt (by with_reducible assumption) | rw [List.length_set] | assumption)) (by exact Nat.le_of_ble_eq_true rfl) ⟨rfl, rfl, fun _ h => by cases h⟩ ?_
    refine ew_aload_n (M := mX5_takeSecondSign) dX5_takeSecondSign_81 rfl (Or.inr (Or.inl ⟨_, rfl⟩)) ?_
    refine ew_iconst (M := mX5_takeSecondSign) dX5_takeSecondSign_82 (v := (-1)) (by decide) ?_
    refine ew_put (M := mX5_takeSecondSign) dX5_takeSecondSign_83 fX5_24 (by repeat (first | with_reducible assumption | refine ex_eq ?_ | refine ex_ne ?_ (by omega) | exact ex_lt (by with_reducible assumption) | rw [List.length_set] | assumption)) (by exact Nat.le_of_ble_eq_true rfl) ⟨rfl, rfl, fun _ h => by cases h⟩ ?_
    refine ew_iconst (M := mX5_takeSecondSign) dX5_takeSecondSign_86 (v := nI 0) (by decide) ?_
    refine ew_iret (M := mX5_takeSecondSign) dX5_takeSecondSign_87 rfl (by first | rfl | decide) (Nat.le_refl _) (Nat.le_refl _) ?_
    refine ⟨rfl, (((hc1.sub (by simp)).set (by simp)).set (by simp)).set (by simp), ex_eq (by rw [List.length_set, List.length_set]; exact ex_lt ha4), w0, h0, upd gs D (nI (0)), upd ms D (nI 1), ⟨(by repeat (first | with_reducible assumption | refine ex_eq ?_ | refine ex_ne ?_ (by omega) | exact ex_lt (by with_reducible assumption) | rw [List.length_set] | assumption)), (by repeat (first | with_reducible assumption | refine ex_eq ?_ | refine ex_ne ?_ (by omega) | exact ex_lt (by with_reducible assumption) | rw [List.length_set] | assumption)), (by repeat (first | with_reducible assumption | refine ex_eq ?_ | refine ex_ne ?_ (by omega) | exact ex_lt (by with_reducible assumption) | rw [List.length_set] | assumption))⟩, fun k hk => ?_⟩
    by_cases e : k = D
    · subst e
      simp only [upd, va_up, if_true]
      exact ⟨trivial, trivial, by omega, by omega⟩
    · simp only [upd, va_up, if_neg e]
      exact hgm k (by omega)
  · have e16 : ¬ s = 16 := fun e => e17 (hm.mpr e)
    rw [if_neg e17, if_neg e17]
    refine ew_aload_n (M := mX5_takeSecondSign) dX5_takeSecondSign_0 rfl (Or.inr (Or.inl ⟨_, rfl⟩)) ?_
    refine ew_get (M := mX5_takeSecondSign) dX5_takeSecondSign_1 fX5_24 (by repeat (first | with_reducible assumption | refine ex_eq ?_ | refine ex_ne ?_ (by omega) | exact ex_lt (by with_reducible assumption) | rw [List.length_set] | assumption)) (by rfl) ?_
    refine ew_bipush (M := mX5_takeSecondSign) dX5_takeSecondSign_4 (v := nI 16) (by decide) ?_
    refine ew_icmp_ne (M := mX5_takeSecondSign) (tgt := 13) dX5_takeSecondSign_6 rfl (fun _ => ?_) (fun h => absurd h (fun e => e17 (by have := (nI_eq (by omega) (by decide)).mp e; omega)))
    refine ew_iconst (M := mX5_takeSecondSign) dX5_takeSecondSign_13 (v := nI 0) (by decide) ?_
    refine ew_istore_n (M := mX5_takeSecondSign) dX5_takeSecondSign_14 (by decide) rfl ?_
    refine ew_iload_n (M := mX5_takeSecondSign) dX5_takeSecondSign_15 rfl ?_
    refine ew_iload_n (M := mX5_takeSecondSign) dX5_takeSecondSign_16 rfl ?_
    refine ew_bipush (M := mX5_takeSecondSign) dX5_takeSecondSign_17 (v := nI 16) (by decide) ?_
    refine ew_icmp_ne (M := mX5_takeSecondSign) (tgt := 26) dX5_takeSecondSign_19 rfl (fun _ => ?_) (fun h => absurd h (fun e => e16 ((nI_eq (by omega) (by decide)).mp e)))
    refine ew_iconst (M := mX5_takeSecondSign) dX5_takeSecondSign_26 (v := nI 0) (by decide) ?_
    refine ew_icmp_eq (M := mX5_takeSecondSign) (tgt := 32) dX5_takeSecondSign_27 rfl (fun _ => ?_) (fun h => absurd rfl h)
    refine ew_aload_n (M := mX5_takeSecondSign) dX5_takeSecondSign_32 rfl (Or.inr (Or.inl ⟨_, rfl⟩)) ?_
    refine ew_get (M := mX5_takeSecondSign) dX5_takeSecondSign_33 fX5_27 (by repeat (first | with_reducible assumption | refine ex_eq ?_ | refine ex_ne ?_ (by omega) | exact ex_lt (by with_reducible assumption) | rw [List.length_set] | assumption)) (by rfl) ?_
    refine ew_aload_n (M := mX5_takeSecondSign) dX5_takeSecondSign_36 rfl (Or.inr (Or.inl ⟨_, rfl⟩)) ?_
    refine ew_get (M := mX5_takeSecondSign) dX5_takeSecondSign_37 fX5_9 (by repeat (first | with_reducible assumption | refine ex_eq ?_ | refine ex_ne ?_ (by omega) | exact ex_lt (by with_reducible assumption) | rw [List.length_set] | assumption)) (by rfl) ?_
    refine ew_iload_n (M := mX5_takeSecondSign) dX5_takeSecondSign_40 rfl ?_
    refine ew_if_eq (M := mX5_takeSecondSign) (tgt := 48) dX5_takeSecondSign_41 rfl (fun _ => ?_) (fun h => absurd rfl h)
    refine ew_aload_n (M := mX5_takeSecondSign) dX5_takeSecondSign_48 rfl (Or.inr (Or.inl ⟨_, rfl⟩)) ?_
    refine ew_get (M := mX5_takeSecondSign) dX5_takeSecondSign_49 fX5_24 (by repeat (first | with_reducible assumption | refine ex_eq ?_ | refine ex_ne ?_ (by omega) | exact ex_lt (by with_reducible assumption) | rw [List.length_set] | assumption)) (by rfl) ?_
    refine ew_bipush (M := mX5_takeSecondSign) dX5_takeSecondSign_52 (v := nI 16) (by decide) ?_
    refine ew_imul (M := mX5_takeSecondSign) dX5_takeSecondSign_54 ?_
    refine ew_iload_n (M := mX5_takeSecondSign) dX5_takeSecondSign_55 rfl ?_
    refine ew_iadd (M := mX5_takeSecondSign) dX5_takeSecondSign_56 ?_
    rw [pk_mul, nI_add]
    refine ew_iload_n (M := mX5_takeSecondSign) dX5_takeSecondSign_57 rfl ?_
    refine ew_callV (M := mX5_takeSecondSign) dX5_takeSecondSign_58 vX5_51 (by repeat (first | with_reducible assumption | refine ex_eq ?_ | refine ex_ne ?_ (by omega) | exact ex_lt (by with_reducible assumption) | rw [List.length_set] | assumption)) rfl (sp_setInOrder (p := p) (gs := gs) (ms := ms) (w := w0) (h := h0) (k := D) (v := 0) (x := nI ((hf - 1) * 16 + s)) hp0 hD (by decide)) rfl (Nat.le_of_ble_eq_true rfl) ⟨Nat.le_refl _, Nat.le_refl _⟩ rfl (fun H58 r58 q58 => ?_)
    obtain ⟨rfl, hc1, hp4⟩ := q58
    have ha4 := hc1.at ha (by simp; omega)
    obtain ⟨hp41, hp42, hp43⟩ := id hp4
    refine ew_aload_n (M := mX5_takeSecondSign) dX5_takeSecondSign_61 rfl (Or.inr (Or.inl ⟨_, rfl⟩)) ?_
    refine ew_dup (M := mX5_takeSecondSign) dX5_takeSecondSign_62 rfl ?_
    refine ew_get (M := mX5_takeSecondSign) dX5_takeSecondSign_63 fX5_9 (by repeat (first | with_reducible assumption | refine ex_eq ?_ | refine ex_ne ?_ (by omega) | exact ex_lt (by with_reducible assumption) | rw [List.length_set] | assumption)) (by rfl) ?_
    refine ew_iconst (M := mX5_takeSecondSign) dX5_takeSecondSign_66 (v := nI 1) (by decide) ?_
    refine ew_iadd (M := mX5_takeSecondSign) dX5_takeSecondSign_67 ?_
    rw [nI_add]
    refine ew_put (M := mX5_takeSecondSign) dX5_takeSecondSign_68 fX5_9 (by repeat (first | with_reducible assumption | refine ex_eq ?_ | refine ex_ne ?_ (by omega) | exact ex_lt (by with_reducible assumption) | rw [List.length_set] | assumption)) (by exact Nat.le_of_ble_eq_true rfl) ⟨rfl, rfl, fun _ h => by cases h⟩ ?_
    refine ew_aload_n (M := mX5_takeSecondSign) dX5_takeSecondSign_71 rfl (Or.inr (Or.inl ⟨_, rfl⟩)) ?_
    refine ew_dup (M := mX5_takeSecondSign) dX5_takeSecondSign_72 rfl ?_
    refine ew_get (M := mX5_takeSecondSign) dX5_takeSecondSign_73 fX5_21 (by repeat (first | with_reducible assumption | refine ex_eq ?_ | refine ex_ne ?_ (by omega) | exact ex_lt (by with_reducible assumption) | rw [List.length_set] | assumption)) (by rfl) ?_
    refine ew_iconst (M := mX5_takeSecondSign) dX5_takeSecondSign_76 (v := nI 1) (by decide) ?_
    refine ew_iadd (M := mX5_takeSecondSign) dX5_takeSecondSign_77 ?_
    rw [nI_add]
    refine ew_put (M := mX5_takeSecondSign) dX5_takeSecondSign_78 fX5_21 (by repeat (first | with_reducible assumption | refine ex_eq ?_ | refine ex_ne ?_ (by omega) | exact ex_lt (by with_reducible assumption) | rw [List.length_set] | assumption)) (by exact Nat.le_of_ble_eq_true rfl) ⟨rfl, rfl, fun _ h => by cases h⟩ ?_
    refine ew_aload_n (M := mX5_takeSecondSign) dX5_takeSecondSign_81 rfl (Or.inr (Or.inl ⟨_, rfl⟩)) ?_
    refine ew_iconst (M := mX5_takeSecondSign) dX5_takeSecondSign_82 (v := (-1)) (by decide) ?_
    refine ew_put (M := mX5_takeSecondSign) dX5_takeSecondSign_83 fX5_24 (by repeat (first | with_reducible assumption | refine ex_eq ?_ | refine ex_ne ?_ (by omega) | exact ex_lt (by with_reducible assumption) | rw [List.length_set] | assumption)) (by exact Nat.le_of_ble_eq_true rfl) ⟨rfl, rfl, fun _ h => by cases h⟩ ?_
    refine ew_iconst (M := mX5_takeSecondSign) dX5_takeSecondSign_86 (v := nI 0) (by decide) ?_
    refine ew_iret (M := mX5_takeSecondSign) dX5_takeSecondSign_87 rfl (by first | rfl | decide) (Nat.le_refl _) (Nat.le_refl _) ?_
    refine ⟨rfl, (((hc1.sub (by simp)).set (by simp)).set (by simp)).set (by simp), ex_eq (by rw [List.length_set, List.length_set]; exact ex_lt ha4), w0, h0, upd gs D (nI ((hf - 1) * 16 + s)), upd ms D (nI 0), ⟨(by repeat (first | with_reducible assumption | refine ex_eq ?_ | refine ex_ne ?_ (by omega) | exact ex_lt (by with_reducible assumption) | rw [List.length_set] | assumption)), (by repeat (first | with_reducible assumption | refine ex_eq ?_ | refine ex_ne ?_ (by omega) | exact ex_lt (by with_reducible assumption) | rw [List.length_set] | assumption)), (by repeat (first | with_reducible assumption | refine ex_eq ?_ | refine ex_ne ?_ (by omega) | exact ex_lt (by with_reducible assumption) | rw [List.length_set] | assumption))⟩, fun k hk => ?_⟩
    by_cases e : k = D
    · subst e
      simp only [upd, va_up, if_true]
      exact ⟨trivial, trivial, by omega, by omega⟩
    · simp only [upd, va_up, if_neg e]
      exact hgm k (by omega)
def rd_f (r c wd hf x : Nat) : Nat := if x = 47 then (if brk r c wd hf = 0 then (if r = 7 then 3 else 0) else brk r c wd hf) else match sg x with
  | none => 1
  | some s => if hf = 0 then (if c < rdW r wd then 0 else 2) else if (hf = 17 ↔ s = 16) then 0 else 1
abbrev rd_S : Type := Nat × Nat × Nat × Nat × Nat × (Nat → Nat) × (Nat → Nat)
def rd_n (z : rd_S) (x : Nat) : rd_S := if x = 47 then (z.1, z.2.1 + 1, 0, rd_W z.2.1 z.2.2.1 z.2.2.2.1, 0, z.2.2.2.2.2) else match sg x with
  | none => z
  | some s => if z.2.2.2.2.1 = 0 then (z.1, z.2.1, z.2.2.1, z.2.2.2.1, s + 1, z.2.2.2.2.2) else (z.1 + 1, z.2.1, z.2.2.1 + 1, z.2.2.2.1, 0, va_up z.2.2.2.2.2.1 z.1 (if z.2.2.2.2.1 = 17 then 0 else (z.2.2.2.2.1 - 1) * 16 + s), va_up z.2.2.2.2.2.2 z.1 (if z.2.2.2.2.1 = 17 then 1 else 0))
def re_s (H : ex_H) (a p : Nat) (z : rd_S) : Prop := re_is H a p z.1 z.2.1 z.2.2.1 z.2.2.2.1 z.2.2.2.2.1
def rd_s (H : ex_H) (p : Nat) (z : rd_S) : Prop := rd_pi H p z.1 z.2.2.2.2.2.1 z.2.2.2.2.2.2
def rd_o (z : rd_S) : Prop := rd_ok z.1 z.2.1 z.2.2.1 z.2.2.2.1 z.2.2.2.2.1
def rd_fs (z : rd_S) (x : Nat) : Nat := rd_f z.2.1 z.2.2.1 z.2.2.2.1 z.2.2.2.2.1 x
def pi_any (H : ex_H) (p : Nat) : Prop := ∃ w h gs ms, pi_at H p w h gs ms
theorem rd_s.any {H : ex_H} {p : Nat} {z : rd_S} (h : rd_s H p z) : pi_any H p := by
  obtain ⟨w, h0, gs, ms, h1, -⟩ := h
  exact ⟨w, h0, gs, ms, h1⟩
theorem pi_any.ch {H H' : ex_H} {L : List Nat} {p : Nat} (hc : ex_ch H H' L) (h : pi_any H p) (h0 : p ∉ L) (h1 : p + 1 ∉ L) (h2 : p + 2 ∉ L) : pi_any H' p := by
  obtain ⟨w, h0', gs, ms, h'⟩ := h
  exact ⟨w, h0', gs, ms, h'.ch hc h0 h1 h2⟩
theorem rd_pi.ch {H H' : ex_H} {L : List Nat} {p D : Nat} {g m : Nat → Nat} (hc : ex_ch H H' L) (h : rd_pi H p D g m) (h0 : p ∉ L) (h1 : p + 1 ∉ L) (h2 : p + 2 ∉ L) : rd_pi H' p D g m := by
  obtain ⟨w, h0', gs, ms, h', k⟩ := h
  exact ⟨w, h0', gs, ms, h'.ch hc h0 h1 h2, k⟩
theorem brk_ok {D r c wd hf : Nat} (h : rd_ok D r c wd hf) (hb : brk r c wd hf = 0) : hf = 0 ∧ 1 ≤ c ∧ c = rd_W r c wd ∧ rd_W r c wd ≤ 10 := by
  obtain ⟨h1, h2, h3, h4, h5, h6, h7⟩ := h
  unfold brk at hb
  unfold rd_W
  unfold rdW at h2 h3
  by_cases q1 : hf ≠ 0 ∨ c = 0
  · rw [if_pos q1] at hb; omega
  · rw [if_neg q1] at hb
    by_cases q2 : 0 < r ∧ c < wd
    · rw [if_pos q2] at hb; omega
    · by_cases hr : r = 0
      · rw [if_pos hr] at h2 h3 ⊢; omega
      · rw [if_neg hr] at h2 h3 ⊢; omega
theorem rd_n_ok {z : rd_S} {x : Nat} (h : rd_o z) (hf : rd_fs z x = 0) : rd_o (rd_n z x) := by
  obtain ⟨D, r, c, wd, hf', g, m⟩ := z
  unfold rd_o rd_fs rd_n rd_f at *
  dsimp only at *
  by_cases hx : x = 47
  · rw [if_pos hx] at hf ⊢
    by_cases hb : brk r c wd hf' = 0
    · rw [if_pos hb] at hf
      have hr7 : r ≠ 7 := fun e => by rw [if_pos e] at hf; omega
      obtain ⟨e1, e2, e3, e4⟩ := brk_ok h hb
      obtain ⟨h1, h2, h3, h4, h5, h6, h7⟩ := h
      dsimp only
      have e5 : rdW (r + 1) (rd_W r c wd) = rd_W r c wd := if_neg (by omega)
      refine ⟨by omega, Nat.zero_le _, by rw [e5]; exact e4, fun _ => by omega, by omega, fun q => by omega, ?_⟩
      rw [if_neg (by omega), h7]
      by_cases hr : r = 0
      · subst hr; rw [if_pos rfl, Nat.zero_add, Nat.one_mul]; exact e3
      · rw [if_neg hr, Nat.succ_mul]
        have e6 : rd_W r c wd = wd := if_neg hr
        rw [e6] at e3 ⊢
        omega
    · rw [if_neg hb] at hf; exact absurd hf hb
  · rw [if_neg hx] at hf ⊢
    obtain ⟨h1, h2, h3, h4, h5, h6, h7⟩ := h
    cases hs : sg x with
    | none => rw [hs] at hf; cases hf
    | some s =>
      rw [hs] at hf
      have hs16 := sg_le hs
      dsimp only at hf ⊢
      by_cases h0 : hf' = 0
      · rw [if_pos h0] at hf ⊢
        have hc : c < rdW r wd := by
          by_cases q : c < rdW r wd
          · exact q
          · rw [if_neg q] at hf; cases hf
        dsimp only
        exact ⟨h1, h2, h3, h4, by omega, fun _ => hc, h7⟩
      · rw [if_neg h0] at hf ⊢
        dsimp only
        refine ⟨h1, h6 (by omega), h3, h4, by omega, fun q => by omega, ?_⟩
        rw [h7]
        by_cases hr : r = 0
        · rw [if_pos hr, if_pos hr]
        · rw [if_neg hr, if_neg hr]; omega
theorem sp_take {d : Nat} {H : ex_H} {a p x : Nat} {z : rd_S} (ha : re_s H a p z) (hok : rd_o z) (hp : rd_s H p z) (hap : a < p ∨ p + 2 < a) (hx : x < 256) : ex_Met mX5_take (d + 3) 0 0 H [.ref a, .int (nI x)] (fun H' y => y = some (.int (nI (rd_fs z x))) ∧ ex_ch H H' [a, p + 1, p + 2] ∧ pi_any H' p ∧ (rd_fs z x = 0 → re_s H' a p (rd_n z x) ∧ rd_s H' p (rd_n z x))) := by
  have hany := hp.any
  obtain ⟨D, r, c, wd, hf, g, m⟩ := z
  unfold re_s rd_s rd_o at *
  dsimp only at *
  have haO := ha
  unfold re_is at haO
  have ef : rd_fs (D, r, c, wd, hf, g, m) x = rd_f r c wd hf x := rfl
  rw [ef]
  refine ex_meth [(0, .ref a), (1, .int (nI x))] rfl rfl rfl (fun b => Nat.le_of_ble_eq_true rfl) ?_
  by_cases h47 : x = 47
  · have e1 : rd_f r c wd hf x = if brk r c wd hf = 0 then (if r = 7 then 3 else 0) else brk r c wd hf := if_pos h47
    have e2 : rd_n (D, r, c, wd, hf, g, m) x = (D, r + 1, 0, rd_W r c wd, 0, g, m) := if_pos h47
    rw [e1, e2]
    by_cases hb : brk r c wd hf = 0
    · rw [if_pos hb]
      refine ew_iload_n (M := mX5_take) dX5_take_0 rfl ?_
      refine ew_bipush (M := mX5_take) dX5_take_1 (v := nI 47) (by decide) ?_
      refine ew_icmp_ne (M := mX5_take) (tgt := 12) dX5_take_3 rfl (fun h => absurd (by rw [h47]) h) (fun _ => ?_)
      refine ew_aload_n (M := mX5_take) dX5_take_6 rfl (Or.inr (Or.inl ⟨_, rfl⟩)) ?_
      refine ew_iconst (M := mX5_take) dX5_take_7 (v := nI 0) (by decide) ?_
      refine ew_callV (M := mX5_take) dX5_take_8 vX5_31 (by repeat (first | with_reducible assumption | refine ex_eq ?_ | refine ex_ne ?_ (by omega) | exact ex_lt (by with_reducible assumption) | rw [List.length_set] | assumption)) rfl (sp_takeRowEnd_b ha hok hb) rfl (Nat.le_of_ble_eq_true rfl) ⟨Nat.le_refl _, Nat.le_refl _⟩ rfl (fun H8 r8 q8 => ?_)
      obtain ⟨rfl, hc1, ha1⟩ := q8
      refine ew_iret (M := mX5_take) dX5_take_11 rfl (by first | rfl | decide) (Nat.le_refl _) (Nat.le_refl _) ?_
      exact ⟨rfl, hc1.sub (by simp), hany.ch hc1 (by simp; omega) (by simp; omega) (by simp; omega), fun _ => ⟨ha1, hp.ch hc1 (by simp; omega) (by simp; omega) (by simp; omega)⟩⟩
    · rw [if_neg hb]
      refine ew_iload_n (M := mX5_take) dX5_take_0 rfl ?_
      refine ew_bipush (M := mX5_take) dX5_take_1 (v := nI 47) (by decide) ?_
      refine ew_icmp_ne (M := mX5_take) (tgt := 12) dX5_take_3 rfl (fun h => absurd (by rw [h47]) h) (fun _ => ?_)
      refine ew_aload_n (M := mX5_take) dX5_take_6 rfl (Or.inr (Or.inl ⟨_, rfl⟩)) ?_
      refine ew_iconst (M := mX5_take) dX5_take_7 (v := nI 0) (by decide) ?_
      refine ew_callV (M := mX5_take) dX5_take_8 vX5_31 (by repeat (first | with_reducible assumption | refine ex_eq ?_ | refine ex_ne ?_ (by omega) | exact ex_lt (by with_reducible assumption) | rw [List.length_set] | assumption)) rfl (sp_takeRowEnd_f ha hok hb) rfl (Nat.le_of_ble_eq_true rfl) ⟨Nat.le_refl _, Nat.le_refl _⟩ rfl (fun H8 r8 q8 => ?_)
      obtain ⟨rfl, rfl⟩ := q8
      refine ew_iret (M := mX5_take) dX5_take_11 rfl (by first | rfl | decide) (Nat.le_refl _) (Nat.le_refl _) ?_
      exact ⟨rfl, ex_ch.rf, hany, fun q => absurd q hb⟩
  · have n47 : ¬ nI x = nI 47 := fun e => h47 ((nI_eq (by omega) (by decide)).mp e)
    cases hs : sg x with
    | none =>
      have e1 : rd_f r c wd hf x = 1 := by unfold rd_f; rw [if_neg h47, hs]
      rw [e1]
      refine ew_iload_n (M := mX5_take) dX5_take_0 rfl ?_
      refine ew_bipush (M := mX5_take) dX5_take_1 (v := nI 47) (by decide) ?_
      refine ew_icmp_ne (M := mX5_take) (tgt := 12) dX5_take_3 rfl (fun _ => ?_) (fun h => absurd h n47)
      refine ew_iload_n (M := mX5_take) dX5_take_12 rfl ?_
      refine ew_callS (M := mX5_take) dX5_take_13 vX5_35 (sp_signOf hx) rfl (Nat.le_of_ble_eq_true rfl) ⟨Nat.le_refl _, Nat.le_refl _⟩ rfl (fun H13 r13 q13 => ?_)
      obtain ⟨rfl, rfl⟩ := q13
      rw [hs]
      refine ew_istore_n (M := mX5_take) dX5_take_16 (by decide) rfl ?_
      refine ew_iload_n (M := mX5_take) dX5_take_17 rfl ?_
      refine ew_iconst (M := mX5_take) dX5_take_18 (v := (-1)) (by decide) ?_
      refine ew_icmp_ne (M := mX5_take) (tgt := 24) dX5_take_19 rfl (fun h => absurd rfl h) (fun _ => ?_)
      refine ew_iconst (M := mX5_take) dX5_take_22 (v := nI 1) (by decide) ?_
      refine ew_iret (M := mX5_take) dX5_take_23 rfl (by first | rfl | decide) (Nat.le_refl _) (Nat.le_refl _) ?_
      exact ⟨rfl, ex_ch.rf, hany, fun q => by cases q⟩
    | some s =>
      have hs16 := sg_le hs
      by_cases h0 : hf = 0
      · subst h0
        have e1 : rd_f r c wd 0 x = if c < rdW r wd then 0 else 2 := by unfold rd_f; rw [if_neg h47, hs]; rfl
        have e2 : rd_n (D, r, c, wd, 0, g, m) x = (D, r, c, wd, s + 1, g, m) := by unfold rd_n; rw [if_neg h47, hs]; rfl
        rw [e1, e2]
        by_cases hc : c < rdW r wd
        · rw [if_pos hc]
          refine ew_iload_n (M := mX5_take) dX5_take_0 rfl ?_
          refine ew_bipush (M := mX5_take) dX5_take_1 (v := nI 47) (by decide) ?_
          refine ew_icmp_ne (M := mX5_take) (tgt := 12) dX5_take_3 rfl (fun _ => ?_) (fun h => absurd h n47)
          refine ew_iload_n (M := mX5_take) dX5_take_12 rfl ?_
          refine ew_callS (M := mX5_take) dX5_take_13 vX5_35 (sp_signOf hx) rfl (Nat.le_of_ble_eq_true rfl) ⟨Nat.le_refl _, Nat.le_refl _⟩ rfl (fun H13 r13 q13 => ?_)
          obtain ⟨rfl, rfl⟩ := q13
          rw [hs]
          refine ew_istore_n (M := mX5_take) dX5_take_16 (by decide) rfl ?_
          refine ew_iload_n (M := mX5_take) dX5_take_17 rfl ?_
          refine ew_iconst (M := mX5_take) dX5_take_18 (v := (-1)) (by decide) ?_
          refine ew_icmp_ne (M := mX5_take) (tgt := 24) dX5_take_19 rfl (fun _ => ?_) (fun h => absurd h (nI_m1 (by omega)))
          refine ew_aload_n (M := mX5_take) dX5_take_24 rfl (Or.inr (Or.inl ⟨_, rfl⟩)) ?_
          refine ew_get (M := mX5_take) dX5_take_25 fX5_24 (by repeat (first | with_reducible assumption | refine ex_eq ?_ | refine ex_ne ?_ (by omega) | exact ex_lt (by with_reducible assumption) | rw [List.length_set] | assumption)) (by rfl) ?_
          refine ew_iconst (M := mX5_take) dX5_take_28 (v := (-1)) (by decide) ?_
          refine ew_icmp_ne (M := mX5_take) (tgt := 40) dX5_take_29 rfl (fun h => absurd rfl h) (fun _ => ?_)
          refine ew_aload_n (M := mX5_take) dX5_take_32 rfl (Or.inr (Or.inl ⟨_, rfl⟩)) ?_
          refine ew_iload_n (M := mX5_take) dX5_take_33 rfl ?_
          refine ew_callV (M := mX5_take) dX5_take_34 vX5_39 (by repeat (first | with_reducible assumption | refine ex_eq ?_ | refine ex_ne ?_ (by omega) | exact ex_lt (by with_reducible assumption) | rw [List.length_set] | assumption)) rfl (sp_takeFirstSign ha hok hc) rfl (Nat.le_of_ble_eq_true rfl) ⟨Nat.le_refl _, Nat.le_refl _⟩ rfl (fun H34 r34 q34 => ?_)
          obtain ⟨rfl, hc1, ha1⟩ := q34
          refine ew_goto (M := mX5_take) (tgt := 45) dX5_take_37 rfl ?_
          refine ew_iret (M := mX5_take) dX5_take_45 rfl (by first | rfl | decide) (Nat.le_refl _) (Nat.le_refl _) ?_
          exact ⟨rfl, hc1.sub (by simp), hany.ch hc1 (by simp; omega) (by simp; omega) (by simp; omega), fun _ => ⟨ha1, hp.ch hc1 (by simp; omega) (by simp; omega) (by simp; omega)⟩⟩
        · rw [if_neg hc]
          refine ew_iload_n (M := mX5_take) dX5_take_0 rfl ?_
          refine ew_bipush (M := mX5_take) dX5_take_1 (v := nI 47) (by decide) ?_
          refine ew_icmp_ne (M := mX5_take) (tgt := 12) dX5_take_3 rfl (fun _ => ?_) (fun h => absurd h n47)
          refine ew_iload_n (M := mX5_take) dX5_take_12 rfl ?_
          refine ew_callS (M := mX5_take) dX5_take_13 vX5_35 (sp_signOf hx) rfl (Nat.le_of_ble_eq_true rfl) ⟨Nat.le_refl _, Nat.le_refl _⟩ rfl (fun H13 r13 q13 => ?_)
          obtain ⟨rfl, rfl⟩ := q13
          rw [hs]
          refine ew_istore_n (M := mX5_take) dX5_take_16 (by decide) rfl ?_
          refine ew_iload_n (M := mX5_take) dX5_take_17 rfl ?_
          refine ew_iconst (M := mX5_take) dX5_take_18 (v := (-1)) (by decide) ?_
          refine ew_icmp_ne (M := mX5_take) (tgt := 24) dX5_take_19 rfl (fun _ => ?_) (fun h => absurd h (nI_m1 (by omega)))
          refine ew_aload_n (M := mX5_take) dX5_take_24 rfl (Or.inr (Or.inl ⟨_, rfl⟩)) ?_
          refine ew_get (M := mX5_take) dX5_take_25 fX5_24 (by repeat (first | with_reducible assumption | refine ex_eq ?_ | refine ex_ne ?_ (by omega) | exact ex_lt (by with_reducible assumption) | rw [List.length_set] | assumption)) (by rfl) ?_
          refine ew_iconst (M := mX5_take) dX5_take_28 (v := (-1)) (by decide) ?_
          refine ew_icmp_ne (M := mX5_take) (tgt := 40) dX5_take_29 rfl (fun h => absurd rfl h) (fun _ => ?_)
          refine ew_aload_n (M := mX5_take) dX5_take_32 rfl (Or.inr (Or.inl ⟨_, rfl⟩)) ?_
          refine ew_iload_n (M := mX5_take) dX5_take_33 rfl ?_
          refine ew_callV (M := mX5_take) dX5_take_34 vX5_39 (by repeat (first | with_reducible assumption | refine ex_eq ?_ | refine ex_ne ?_ (by omega) | exact ex_lt (by with_reducible assumption) | rw [List.length_set] | assumption)) rfl (sp_takeFirstSign_f ha hok hc) rfl (Nat.le_of_ble_eq_true rfl) ⟨Nat.le_refl _, Nat.le_refl _⟩ rfl (fun H34 r34 q34 => ?_)
          obtain ⟨rfl, rfl⟩ := q34
          refine ew_goto (M := mX5_take) (tgt := 45) dX5_take_37 rfl ?_
          refine ew_iret (M := mX5_take) dX5_take_45 rfl (by first | rfl | decide) (Nat.le_refl _) (Nat.le_refl _) ?_
          exact ⟨rfl, ex_ch.rf, hany, fun q => by cases q⟩
      · have e1 : rd_f r c wd hf x = if (hf = 17 ↔ s = 16) then 0 else 1 := by
          unfold rd_f
          rw [if_neg h47, hs]
          dsimp only
          rw [if_neg h0]
        have e2 : rd_n (D, r, c, wd, hf, g, m) x = (D + 1, r, c + 1, wd, 0, va_up g D (if hf = 17 then 0 else (hf - 1) * 16 + s), va_up m D (if hf = 17 then 1 else 0)) := by
          unfold rd_n
          rw [if_neg h47, hs]
          dsimp only
          rw [if_neg h0]
        rw [e1, e2]
        have nfs : ¬ fsI hf = -1 := by
          unfold fsI
          rw [if_neg h0]
          exact nI_m1 (by have := hok.2.2.2.2.1; omega)
        by_cases hm : (hf = 17 ↔ s = 16)
        · rw [if_pos hm]
          refine ew_iload_n (M := mX5_take) dX5_take_0 rfl ?_
          refine ew_bipush (M := mX5_take) dX5_take_1 (v := nI 47) (by decide) ?_
          refine ew_icmp_ne (M := mX5_take) (tgt := 12) dX5_take_3 rfl (fun _ => ?_) (fun h => absurd h n47)
          refine ew_iload_n (M := mX5_take) dX5_take_12 rfl ?_
          refine ew_callS (M := mX5_take) dX5_take_13 vX5_35 (sp_signOf hx) rfl (Nat.le_of_ble_eq_true rfl) ⟨Nat.le_refl _, Nat.le_refl _⟩ rfl (fun H13 r13 q13 => ?_)
          obtain ⟨rfl, rfl⟩ := q13
          rw [hs]
          refine ew_istore_n (M := mX5_take) dX5_take_16 (by decide) rfl ?_
          refine ew_iload_n (M := mX5_take) dX5_take_17 rfl ?_
          refine ew_iconst (M := mX5_take) dX5_take_18 (v := (-1)) (by decide) ?_
          refine ew_icmp_ne (M := mX5_take) (tgt := 24) dX5_take_19 rfl (fun _ => ?_) (fun h => absurd h (nI_m1 (by omega)))
          refine ew_aload_n (M := mX5_take) dX5_take_24 rfl (Or.inr (Or.inl ⟨_, rfl⟩)) ?_
          refine ew_get (M := mX5_take) dX5_take_25 fX5_24 (by repeat (first | with_reducible assumption | refine ex_eq ?_ | refine ex_ne ?_ (by omega) | exact ex_lt (by with_reducible assumption) | rw [List.length_set] | assumption)) (by rfl) ?_
          refine ew_iconst (M := mX5_take) dX5_take_28 (v := (-1)) (by decide) ?_
          refine ew_icmp_ne (M := mX5_take) (tgt := 40) dX5_take_29 rfl (fun _ => ?_) (fun h => absurd h nfs)
          refine ew_aload_n (M := mX5_take) dX5_take_40 rfl (Or.inr (Or.inl ⟨_, rfl⟩)) ?_
          refine ew_iload_n (M := mX5_take) dX5_take_41 rfl ?_
          refine ew_callV (M := mX5_take) dX5_take_42 vX5_42 (by repeat (first | with_reducible assumption | refine ex_eq ?_ | refine ex_ne ?_ (by omega) | exact ex_lt (by with_reducible assumption) | rw [List.length_set] | assumption)) rfl (sp_takeSecondSign ha hok hp hap hs16 (by omega) hm) rfl (Nat.le_of_ble_eq_true rfl) ⟨Nat.le_refl _, Nat.le_refl _⟩ rfl (fun H42 r42 q42 => ?_)
          obtain ⟨rfl, hc1, ha1, hp1⟩ := q42
          refine ew_iret (M := mX5_take) dX5_take_45 rfl (by first | rfl | decide) (Nat.le_refl _) (Nat.le_refl _) ?_
          exact ⟨rfl, hc1, rd_s.any (z := (D + 1, r, c + 1, wd, 0, _, _)) hp1, fun _ => ⟨ha1, hp1⟩⟩
        · rw [if_neg hm]
          refine ew_iload_n (M := mX5_take) dX5_take_0 rfl ?_
          refine ew_bipush (M := mX5_take) dX5_take_1 (v := nI 47) (by decide) ?_
          refine ew_icmp_ne (M := mX5_take) (tgt := 12) dX5_take_3 rfl (fun _ => ?_) (fun h => absurd h n47)
          refine ew_iload_n (M := mX5_take) dX5_take_12 rfl ?_
          refine ew_callS (M := mX5_take) dX5_take_13 vX5_35 (sp_signOf hx) rfl (Nat.le_of_ble_eq_true rfl) ⟨Nat.le_refl _, Nat.le_refl _⟩ rfl (fun H13 r13 q13 => ?_)
          obtain ⟨rfl, rfl⟩ := q13
          rw [hs]
          refine ew_istore_n (M := mX5_take) dX5_take_16 (by decide) rfl ?_
          refine ew_iload_n (M := mX5_take) dX5_take_17 rfl ?_
          refine ew_iconst (M := mX5_take) dX5_take_18 (v := (-1)) (by decide) ?_
          refine ew_icmp_ne (M := mX5_take) (tgt := 24) dX5_take_19 rfl (fun _ => ?_) (fun h => absurd h (nI_m1 (by omega)))
          refine ew_aload_n (M := mX5_take) dX5_take_24 rfl (Or.inr (Or.inl ⟨_, rfl⟩)) ?_
          refine ew_get (M := mX5_take) dX5_take_25 fX5_24 (by repeat (first | with_reducible assumption | refine ex_eq ?_ | refine ex_ne ?_ (by omega) | exact ex_lt (by with_reducible assumption) | rw [List.length_set] | assumption)) (by rfl) ?_
          refine ew_iconst (M := mX5_take) dX5_take_28 (v := (-1)) (by decide) ?_
          refine ew_icmp_ne (M := mX5_take) (tgt := 40) dX5_take_29 rfl (fun _ => ?_) (fun h => absurd h nfs)
          refine ew_aload_n (M := mX5_take) dX5_take_40 rfl (Or.inr (Or.inl ⟨_, rfl⟩)) ?_
          refine ew_iload_n (M := mX5_take) dX5_take_41 rfl ?_
          refine ew_callV (M := mX5_take) dX5_take_42 vX5_42 (by repeat (first | with_reducible assumption | refine ex_eq ?_ | refine ex_ne ?_ (by omega) | exact ex_lt (by with_reducible assumption) | rw [List.length_set] | assumption)) rfl (sp_takeSecondSign_f ha hok hs16 (by omega) hm) rfl (Nat.le_of_ble_eq_true rfl) ⟨Nat.le_refl _, Nat.le_refl _⟩ rfl (fun H42 r42 q42 => ?_)
          obtain ⟨rfl, rfl⟩ := q42
          refine ew_iret (M := mX5_take) dX5_take_45 rfl (by first | rfl | decide) (Nat.le_refl _) (Nat.le_refl _) ?_
          exact ⟨rfl, ex_ch.rf, hany, fun q => by cases q⟩
