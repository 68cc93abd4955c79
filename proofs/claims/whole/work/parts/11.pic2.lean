theorem nat_down {P : Nat → Prop} (n : Nat) (hs : ∀ i, i < n → P (i + 1) → P i) (he : P n) : P 0 := by
  have key : ∀ k, k ≤ n → P k → P 0 := by
    intro k
    induction k with
    | zero => intro _ h; exact h
    | succ k ih => intro hk h; exact ih (by omega) (hs k (by omega) h)
  exact key n (Nat.le_refl n) he
theorem nI_and1 {v : Nat} (hv : v < 2) : nI v &&& 1 = nI v := by
  rcases (show v = 0 ∨ v = 1 by omega) with rfl | rfl <;> decide
theorem sp_dots0 {d : Nat} {H : ex_H} {p w h : Nat} {a b : Value} (hp : H[p]? = some (ob 4 [.int (nI w), .int (nI h), a, b])) : ex_Met mX4_dots d 0 0 H [.ref p] (ex_r H (.int (nI (w * h)))) := by
  refine ex_meth [(0, .ref p)] rfl rfl rfl (fun b => Nat.le_of_ble_eq_true rfl) ?_
  refine ew_aload_n (M := mX4_dots) dX4_dots_0 rfl (Or.inr (Or.inl ⟨_, rfl⟩)) ?_
  refine ew_get (M := mX4_dots) dX4_dots_1 fX4_9 (by repeat (first | with_reducible assumption | refine ex_eq ?_ | refine ex_ne ?_ (by omega) | exact ex_lt (by with_reducible assumption) | rw [List.length_set] | assumption)) (by rfl) ?_
  refine ew_aload_n (M := mX4_dots) dX4_dots_4 rfl (Or.inr (Or.inl ⟨_, rfl⟩)) ?_
  refine ew_get (M := mX4_dots) dX4_dots_5 fX4_15 (by repeat (first | with_reducible assumption | refine ex_eq ?_ | refine ex_ne ?_ (by omega) | exact ex_lt (by with_reducible assumption) | rw [List.length_set] | assumption)) (by rfl) ?_
  refine ew_imul (M := mX4_dots) dX4_dots_8 ?_
  refine ew_iret (M := mX4_dots) dX4_dots_9 rfl (by first | rfl | decide) (Nat.le_refl _) (Nat.le_refl _) ?_
  exact ⟨rfl, by rw [pk_mul]⟩
theorem sp_has0 {d : Nat} {H : ex_H} {p w h : Nat} {a b : Value} (hp : H[p]? = some (ob 4 [.int (nI w), .int (nI h), a, b])) (hz : pi_sz w h) {i j : Nat} (hi : i < w) (hj : j < h) : ex_Met mX4_has d 0 0 H [.ref p, .int (nI i), .int (nI j)] (ex_r H (.int (nI 1))) := by
  obtain ⟨hz1, hz2, hz3, hz4⟩ := id hz
  refine ex_meth [(0, .ref p), (1, .int (nI i)), (2, .int (nI j))] rfl rfl rfl (fun b => Nat.le_of_ble_eq_true rfl) ?_
  refine ew_iconst (M := mX4_has) dX4_has_0 (v := nI 0) (by decide) ?_
  refine ew_iload_n (M := mX4_has) dX4_has_1 rfl ?_
  refine ew_icmp_gt (M := mX4_has) (tgt := 30) dX4_has_2 rfl (fun h => absurd h (nI_nlt (Nat.zero_le i) (by omega))) (fun _ => ?_)
  refine ew_iload_n (M := mX4_has) dX4_has_5 rfl ?_
  refine ew_aload_n (M := mX4_has) dX4_has_6 rfl (Or.inr (Or.inl ⟨_, rfl⟩)) ?_
  refine ew_get (M := mX4_has) dX4_has_7 fX4_9 (by repeat (first | with_reducible assumption | refine ex_eq ?_ | refine ex_ne ?_ (by omega) | exact ex_lt (by with_reducible assumption) | rw [List.length_set] | assumption)) (by rfl) ?_
  refine ew_icmp_ge (M := mX4_has) (tgt := 30) dX4_has_10 rfl (fun h => absurd h (nI_ge hi (by omega))) (fun _ => ?_)
  refine ew_iconst (M := mX4_has) dX4_has_13 (v := nI 0) (by decide) ?_
  refine ew_iload_n (M := mX4_has) dX4_has_14 rfl ?_
  refine ew_icmp_gt (M := mX4_has) (tgt := 30) dX4_has_15 rfl (fun h => absurd h (nI_nlt (Nat.zero_le j) (by omega))) (fun _ => ?_)
  refine ew_iload_n (M := mX4_has) dX4_has_18 rfl ?_
  refine ew_aload_n (M := mX4_has) dX4_has_19 rfl (Or.inr (Or.inl ⟨_, rfl⟩)) ?_
  refine ew_get (M := mX4_has) dX4_has_20 fX4_15 (by repeat (first | with_reducible assumption | refine ex_eq ?_ | refine ex_ne ?_ (by omega) | exact ex_lt (by with_reducible assumption) | rw [List.length_set] | assumption)) (by rfl) ?_
  refine ew_icmp_ge (M := mX4_has) (tgt := 30) dX4_has_23 rfl (fun h => absurd h (nI_ge hj (by omega))) (fun _ => ?_)
  refine ew_iconst (M := mX4_has) dX4_has_26 (v := nI 1) (by decide) ?_
  refine ew_goto (M := mX4_has) (tgt := 31) dX4_has_27 rfl ?_
  refine ew_iret (M := mX4_has) dX4_has_31 rfl (by first | rfl | decide) (Nat.le_refl _) (Nat.le_refl _) ?_
  exact ⟨rfl, rfl⟩
theorem sp_setGrey0 {d : Nat} {H : ex_H} {p w h : Nat} {gs ms : Nat → Int32} (hp : pi_at H p w h gs ms) (hz : pi_sz w h) {i j : Nat} (hi : i < w) (hj : j < h) {v : Int32} : ex_Met mX4_setGrey (d + 1) 0 0 H [.ref p, .int (nI i), .int (nI j), .int v] (fun H' r => H.set (p + 1) (ar .int 80 (upd gs (j * w + i) v)) = H' ∧ r = none) := by
  obtain ⟨hp1, hp2, hp3⟩ := id hp
  have h80 := pi_80 hz
  have hb := pi_lt hi hj
  refine ex_meth [(0, .ref p), (1, .int (nI i)), (2, .int (nI j)), (3, .int v)] rfl rfl rfl (fun b => Nat.le_of_ble_eq_true rfl) ?_
  refine ew_aload_n (M := mX4_setGrey) dX4_setGrey_0 rfl (Or.inr (Or.inl ⟨_, rfl⟩)) ?_
  refine ew_iload_n (M := mX4_setGrey) dX4_setGrey_1 rfl ?_
  refine ew_iload_n (M := mX4_setGrey) dX4_setGrey_2 rfl ?_
  refine ew_callV (M := mX4_setGrey) dX4_setGrey_3 vX4_26 (by repeat (first | with_reducible assumption | refine ex_eq ?_ | refine ex_ne ?_ (by omega) | exact ex_lt (by with_reducible assumption) | rw [List.length_set] | assumption)) rfl (sp_has0 hp1 hz hi hj) rfl (Nat.le_of_ble_eq_true rfl) ⟨Nat.le_refl _, Nat.le_refl _⟩ rfl (fun H3 r3 q3 => ?_)
  obtain ⟨rfl, rfl⟩ := q3
  refine ew_if_eq (M := mX4_setGrey) (tgt := 23) dX4_setGrey_6 rfl (fun h => absurd h (by decide)) (fun _ => ?_)
  refine ew_aload_n (M := mX4_setGrey) dX4_setGrey_9 rfl (Or.inr (Or.inl ⟨_, rfl⟩)) ?_
  refine ew_get (M := mX4_setGrey) dX4_setGrey_10 fX4_18 (by repeat (first | with_reducible assumption | refine ex_eq ?_ | refine ex_ne ?_ (by omega) | exact ex_lt (by with_reducible assumption) | rw [List.length_set] | assumption)) (by rfl) ?_
  refine ew_iload_n (M := mX4_setGrey) dX4_setGrey_13 rfl ?_
  refine ew_aload_n (M := mX4_setGrey) dX4_setGrey_14 rfl (Or.inr (Or.inl ⟨_, rfl⟩)) ?_
  refine ew_get (M := mX4_setGrey) dX4_setGrey_15 fX4_9 (by repeat (first | with_reducible assumption | refine ex_eq ?_ | refine ex_ne ?_ (by omega) | exact ex_lt (by with_reducible assumption) | rw [List.length_set] | assumption)) (by rfl) ?_
  refine ew_imul (M := mX4_setGrey) dX4_setGrey_18 ?_
  refine ew_iload_n (M := mX4_setGrey) dX4_setGrey_19 rfl ?_
  refine ew_iadd (M := mX4_setGrey) dX4_setGrey_20 ?_
  refine ew_iload_n (M := mX4_setGrey) dX4_setGrey_21 rfl ?_
  refine ew_iast (M := mX4_setGrey) (j * w + i) dX4_setGrey_22 (by repeat (first | with_reducible assumption | refine ex_eq ?_ | refine ex_ne ?_ (by omega) | exact ex_lt (by with_reducible assumption) | rw [List.length_set] | assumption)) ⟨by rw [pk_mul, nI_add], by omega, by decide⟩ ?_
  refine ew_vret (M := mX4_setGrey) dX4_setGrey_23 rfl (Nat.le_refl _) (Nat.le_refl _) ?_
  exact ⟨rfl, rfl⟩
theorem sp_setMasked0 {d : Nat} {H : ex_H} {p w h : Nat} {gs ms : Nat → Int32} (hp : pi_at H p w h gs ms) (hz : pi_sz w h) {i j v : Nat} (hi : i < w) (hj : j < h) (hv : v < 2) : ex_Met mX4_setMasked (d + 1) 0 0 H [.ref p, .int (nI i), .int (nI j), .int (nI v)] (fun H' r => H.set (p + 2) (ar .boolean 80 (upd ms (j * w + i) (nI v))) = H' ∧ r = none) := by
  obtain ⟨hp1, hp2, hp3⟩ := id hp
  have h80 := pi_80 hz
  have hb := pi_lt hi hj
  have hv1 := nI_and1 hv
  refine ex_meth [(0, .ref p), (1, .int (nI i)), (2, .int (nI j)), (3, .int (nI v))] rfl rfl rfl (fun b => Nat.le_of_ble_eq_true rfl) ?_
  refine ew_aload_n (M := mX4_setMasked) dX4_setMasked_0 rfl (Or.inr (Or.inl ⟨_, rfl⟩)) ?_
  refine ew_iload_n (M := mX4_setMasked) dX4_setMasked_1 rfl ?_
  refine ew_iload_n (M := mX4_setMasked) dX4_setMasked_2 rfl ?_
  refine ew_callV (M := mX4_setMasked) dX4_setMasked_3 vX4_26 (by repeat (first | with_reducible assumption | refine ex_eq ?_ | refine ex_ne ?_ (by omega) | exact ex_lt (by with_reducible assumption) | rw [List.length_set] | assumption)) rfl (sp_has0 hp1 hz hi hj) rfl (Nat.le_of_ble_eq_true rfl) ⟨Nat.le_refl _, Nat.le_refl _⟩ rfl (fun H3 r3 q3 => ?_)
  obtain ⟨rfl, rfl⟩ := q3
  refine ew_if_eq (M := mX4_setMasked) (tgt := 23) dX4_setMasked_6 rfl (fun h => absurd h (by decide)) (fun _ => ?_)
  refine ew_aload_n (M := mX4_setMasked) dX4_setMasked_9 rfl (Or.inr (Or.inl ⟨_, rfl⟩)) ?_
  refine ew_get (M := mX4_setMasked) dX4_setMasked_10 fX4_22 (by repeat (first | with_reducible assumption | refine ex_eq ?_ | refine ex_ne ?_ (by omega) | exact ex_lt (by with_reducible assumption) | rw [List.length_set] | assumption)) (by rfl) ?_
  refine ew_iload_n (M := mX4_setMasked) dX4_setMasked_13 rfl ?_
  refine ew_aload_n (M := mX4_setMasked) dX4_setMasked_14 rfl (Or.inr (Or.inl ⟨_, rfl⟩)) ?_
  refine ew_get (M := mX4_setMasked) dX4_setMasked_15 fX4_9 (by repeat (first | with_reducible assumption | refine ex_eq ?_ | refine ex_ne ?_ (by omega) | exact ex_lt (by with_reducible assumption) | rw [List.length_set] | assumption)) (by rfl) ?_
  refine ew_imul (M := mX4_setMasked) dX4_setMasked_18 ?_
  refine ew_iload_n (M := mX4_setMasked) dX4_setMasked_19 rfl ?_
  refine ew_iadd (M := mX4_setMasked) dX4_setMasked_20 ?_
  refine ew_iload_n (M := mX4_setMasked) dX4_setMasked_21 rfl ?_
  refine ew_zast (M := mX4_setMasked) (j * w + i) dX4_setMasked_22 (by repeat (first | with_reducible assumption | refine ex_eq ?_ | refine ex_ne ?_ (by omega) | exact ex_lt (by with_reducible assumption) | rw [List.length_set] | assumption)) ⟨by rw [pk_mul, nI_add], by omega, by decide⟩ (by assumption) ?_
  refine ew_vret (M := mX4_setMasked) dX4_setMasked_23 rfl (Nat.le_refl _) (Nat.le_refl _) ?_
  exact ⟨rfl, rfl⟩
theorem sp_setInOrder {d : Nat} {H : ex_H} {p w h : Nat} {gs ms : Nat → Int32} (hp : pi_at H p w h gs ms) {k v : Nat} {x : Int32} (hk : k < 80) (hv : v < 2) : ex_Met mX4_setInOrder (d + 1) 0 0 H [.ref p, .int (nI k), .int x, .int (nI v)] (fun H' r => r = none ∧ ex_ch H H' [p + 1, p + 2] ∧ pi_at H' p w h (upd gs k x) (upd ms k (nI v))) := by
  obtain ⟨hp1, hp2, hp3⟩ := id hp
  have hv1 := nI_and1 hv
  refine ex_meth [(0, .ref p), (1, .int (nI k)), (2, .int x), (3, .int (nI v))] rfl rfl rfl (fun b => Nat.le_of_ble_eq_true rfl) ?_
  refine ew_iload_n (M := mX4_setInOrder) dX4_setInOrder_0 rfl ?_
  refine ew_iconst (M := mX4_setInOrder) dX4_setInOrder_1 (v := nI 0) (by decide) ?_
  refine ew_bipush (M := mX4_setInOrder) dX4_setInOrder_2 (v := nI 79) (by decide) ?_
  refine ew_callS (M := mX4_setInOrder) dX4_setInOrder_4 vX4_30 (sp_within_y (nI_le (Nat.zero_le k) (by omega)) (nI_le (b := 79) (by omega) (by decide))) rfl (Nat.le_of_ble_eq_true rfl) ⟨Nat.le_refl _, Nat.le_refl _⟩ rfl (fun H4 r4 q4 => ?_)
  obtain ⟨rfl, rfl⟩ := q4
  refine ew_if_eq (M := mX4_setInOrder) (tgt := 24) dX4_setInOrder_7 rfl (fun h => absurd h (by decide)) (fun _ => ?_)
  refine ew_aload_n (M := mX4_setInOrder) dX4_setInOrder_10 rfl (Or.inr (Or.inl ⟨_, rfl⟩)) ?_
  refine ew_get (M := mX4_setInOrder) dX4_setInOrder_11 fX4_18 (by repeat (first | with_reducible assumption | refine ex_eq ?_ | refine ex_ne ?_ (by omega) | exact ex_lt (by with_reducible assumption) | rw [List.length_set] | assumption)) (by rfl) ?_
  refine ew_iload_n (M := mX4_setInOrder) dX4_setInOrder_14 rfl ?_
  refine ew_iload_n (M := mX4_setInOrder) dX4_setInOrder_15 rfl ?_
  refine ew_iast (M := mX4_setInOrder) k dX4_setInOrder_16 (by repeat (first | with_reducible assumption | refine ex_eq ?_ | refine ex_ne ?_ (by omega) | exact ex_lt (by with_reducible assumption) | rw [List.length_set] | assumption)) ⟨rfl, hk, by decide⟩ ?_
  refine ew_aload_n (M := mX4_setInOrder) dX4_setInOrder_17 rfl (Or.inr (Or.inl ⟨_, rfl⟩)) ?_
  refine ew_get (M := mX4_setInOrder) dX4_setInOrder_18 fX4_22 (by repeat (first | with_reducible assumption | refine ex_eq ?_ | refine ex_ne ?_ (by omega) | exact ex_lt (by with_reducible assumption) | rw [List.length_set] | assumption)) (by rfl) ?_
  refine ew_iload_n (M := mX4_setInOrder) dX4_setInOrder_21 rfl ?_
  refine ew_iload_n (M := mX4_setInOrder) dX4_setInOrder_22 rfl ?_
  refine ew_zast (M := mX4_setInOrder) k dX4_setInOrder_23 (by repeat (first | with_reducible assumption | refine ex_eq ?_ | refine ex_ne ?_ (by omega) | exact ex_lt (by with_reducible assumption) | rw [List.length_set] | assumption)) ⟨rfl, hk, by decide⟩ (by assumption) ?_
  refine ew_vret (M := mX4_setInOrder) dX4_setInOrder_24 rfl (Nat.le_refl _) (Nat.le_refl _) ?_
  exact ⟨rfl, (ex_ch.rf.set (by simp)).set (by simp), (by repeat (first | with_reducible assumption | refine ex_eq ?_ | refine ex_ne ?_ (by omega) | exact ex_lt (by with_reducible assumption) | rw [List.length_set] | assumption)), (by repeat (first | with_reducible assumption | refine ex_eq ?_ | refine ex_ne ?_ (by omega) | exact ex_lt (by with_reducible assumption) | rw [List.length_set] | assumption)), (by repeat (first | with_reducible assumption | refine ex_eq ?_ | refine ex_ne ?_ (by omega) | exact ex_lt (by with_reducible assumption) | rw [List.length_set] | assumption))⟩
theorem sp_setSize {d : Nat} {H : ex_H} {p w h w0 h0 : Nat} {gs ms : Nat → Int32} (hp : pi_at H p w0 h0 gs ms) (hz : pi_sz w h) : ex_Met mX4_setSize (d + 1) 0 0 H [.ref p, .int (nI w), .int (nI h)] (fun H' r => r = none ∧ ex_ch H H' [p] ∧ pi_at H' p w h gs ms) := by
  obtain ⟨hp1, hp2, hp3⟩ := id hp
  obtain ⟨hz1, hz2, hz3, hz4⟩ := id hz
  refine ex_meth [(0, .ref p), (1, .int (nI w)), (2, .int (nI h))] rfl rfl rfl (fun b => Nat.le_of_ble_eq_true rfl) ?_
  refine ew_iload_n (M := mX4_setSize) dX4_setSize_0 rfl ?_
  refine ew_iconst (M := mX4_setSize) dX4_setSize_1 (v := nI 1) (by decide) ?_
  refine ew_bipush (M := mX4_setSize) dX4_setSize_2 (v := nI 10) (by decide) ?_
  refine ew_callS (M := mX4_setSize) dX4_setSize_4 vX4_30 (sp_within_y (nI_le hz1 (by omega)) (nI_le hz2 (by decide))) rfl (Nat.le_of_ble_eq_true rfl) ⟨Nat.le_refl _, Nat.le_refl _⟩ rfl (fun H4 r4 q4 => ?_)
  obtain ⟨rfl, rfl⟩ := q4
  refine ew_if_eq (M := mX4_setSize) (tgt := 30) dX4_setSize_7 rfl (fun h => absurd h (by decide)) (fun _ => ?_)
  refine ew_iload_n (M := mX4_setSize) dX4_setSize_10 rfl ?_
  refine ew_iconst (M := mX4_setSize) dX4_setSize_11 (v := nI 1) (by decide) ?_
  refine ew_bipush (M := mX4_setSize) dX4_setSize_12 (v := nI 8) (by decide) ?_
  refine ew_callS (M := mX4_setSize) dX4_setSize_14 vX4_30 (sp_within_y (nI_le hz3 (by omega)) (nI_le hz4 (by decide))) rfl (Nat.le_of_ble_eq_true rfl) ⟨Nat.le_refl _, Nat.le_refl _⟩ rfl (fun H14 r14 q14 => ?_)
  obtain ⟨rfl, rfl⟩ := q14
  refine ew_if_eq (M := mX4_setSize) (tgt := 30) dX4_setSize_17 rfl (fun h => absurd h (by decide)) (fun _ => ?_)
  refine ew_aload_n (M := mX4_setSize) dX4_setSize_20 rfl (Or.inr (Or.inl ⟨_, rfl⟩)) ?_
  refine ew_iload_n (M := mX4_setSize) dX4_setSize_21 rfl ?_
  refine ew_put (M := mX4_setSize) dX4_setSize_22 fX4_9 (by repeat (first | with_reducible assumption | refine ex_eq ?_ | refine ex_ne ?_ (by omega) | exact ex_lt (by with_reducible assumption) | rw [List.length_set] | assumption)) (by exact Nat.le_of_ble_eq_true rfl) ⟨rfl, rfl, fun _ h => by cases h⟩ ?_
  refine ew_aload_n (M := mX4_setSize) dX4_setSize_25 rfl (Or.inr (Or.inl ⟨_, rfl⟩)) ?_
  refine ew_iload_n (M := mX4_setSize) dX4_setSize_26 rfl ?_
  refine ew_put (M := mX4_setSize) dX4_setSize_27 fX4_15 (by repeat (first | with_reducible assumption | refine ex_eq ?_ | refine ex_ne ?_ (by omega) | exact ex_lt (by with_reducible assumption) | rw [List.length_set] | assumption)) (by exact Nat.le_of_ble_eq_true rfl) ⟨rfl, rfl, fun _ h => by cases h⟩ ?_
  refine ew_vret (M := mX4_setSize) dX4_setSize_30 rfl (Nat.le_refl _) (Nat.le_refl _) ?_
  exact ⟨rfl, (ex_ch.rf.set (by simp)).set (by simp), ex_eq (by rw [List.length_set]; exact ex_lt hp1), (by repeat (first | with_reducible assumption | refine ex_eq ?_ | refine ex_ne ?_ (by omega) | exact ex_lt (by with_reducible assumption) | rw [List.length_set] | assumption)), (by repeat (first | with_reducible assumption | refine ex_eq ?_ | refine ex_ne ?_ (by omega) | exact ex_lt (by with_reducible assumption) | rw [List.length_set] | assumption))⟩
theorem sp_become {d : Nat} {H : ex_H} {p q w h w0 h0 : Nat} {g m : Nat → Nat} {gs0 ms0 : Nat → Int32} (hp : pi_at H p w0 h0 gs0 ms0) (hq : pi_is H q w h g m) (hpq : p + 2 < q ∨ q + 2 < p) : ex_Met mX4_become (d + 2) 0 0 H [.ref p, .ref q] (fun H' r => r = none ∧ ex_ch H H' [p, p + 1, p + 2] ∧ pi_is H' p w h g m) := by
  obtain ⟨hok, gs, ms, hq0, hct⟩ := id hq
  obtain ⟨hz, hgm⟩ := id hok
  obtain ⟨hq1, hq2, hq3⟩ := id hq0
  obtain ⟨hpp1, hpp2, hpp3⟩ := id hp
  have h80 := pi_80 hz
  refine ex_meth [(0, .ref p), (1, .ref q)] rfl rfl rfl (fun b => Nat.le_of_ble_eq_true rfl) ?_
  refine ew_aload_n (M := mX4_become) dX4_become_0 rfl (Or.inr (Or.inl ⟨_, rfl⟩)) ?_
  refine ew_aload_n (M := mX4_become) dX4_become_1 rfl (Or.inr (Or.inl ⟨_, rfl⟩)) ?_
  refine ew_get (M := mX4_become) dX4_become_2 fX4_9 (by repeat (first | with_reducible assumption | refine ex_eq ?_ | refine ex_ne ?_ (by omega) | exact ex_lt (by with_reducible assumption) | rw [List.length_set] | assumption)) (by rfl) ?_
  refine ew_aload_n (M := mX4_become) dX4_become_5 rfl (Or.inr (Or.inl ⟨_, rfl⟩)) ?_
  refine ew_get (M := mX4_become) dX4_become_6 fX4_15 (by repeat (first | with_reducible assumption | refine ex_eq ?_ | refine ex_ne ?_ (by omega) | exact ex_lt (by with_reducible assumption) | rw [List.length_set] | assumption)) (by rfl) ?_
  refine ew_callV (M := mX4_become) dX4_become_9 vX4_34 (by repeat (first | with_reducible assumption | refine ex_eq ?_ | refine ex_ne ?_ (by omega) | exact ex_lt (by with_reducible assumption) | rw [List.length_set] | assumption)) rfl (sp_setSize hp hz) rfl (Nat.le_of_ble_eq_true rfl) ⟨Nat.le_refl _, Nat.le_refl _⟩ rfl (fun H9 r9 q9 => ?_)
  obtain ⟨rfl, hc1, hp1⟩ := q9
  refine ew_iconst (M := mX4_become) dX4_become_12 (v := nI 0) (by decide) ?_
  refine ew_istore_n (M := mX4_become) dX4_become_13 (by decide) rfl ?_
  refine ew_ls [(0, .ref p), (1, .ref q), (2, .int (nI 0))] ⟨rfl, rfl, rfl, trivial⟩ ?_
  refine nat_down (P := fun i => ∀ (H2 : ex_H) (f e : Nat → Int32), ex_ch H9 H2 [p + 1, p + 2] → pi_at H2 p w h f e → (∀ k, k < i → f k = nI (g k) ∧ e k = nI (m k)) → ex_W mX4_become (d + 2) 0 0 _ H2 14 [(0, .ref p), (1, .ref q), (2, .int (nI i))] [] 0 0) (w * h) (fun i hi k => ?_) ?_ H9 _ _ ex_ch.rf hp1 (fun k hk => absurd hk (Nat.not_lt_zero k))
  · intro H2 f e hc2 hp2 hfe
    obtain ⟨hp21, hp22, hp23⟩ := id hp2
    have hq0 := (pi_at.ch hc1 hq0 (by simp; omega) (by simp; omega) (by simp; omega)).ch hc2 (by simp; omega) (by simp; omega) (by simp; omega)
    obtain ⟨hq1, hq2, hq3⟩ := hq0
    have hm1 := nI_and1 (hgm i hi).2
    obtain ⟨hg1, hg2⟩ := hct i hi
    refine ew_iload_n (M := mX4_become) dX4_become_14 rfl ?_
    refine ew_aload_n (M := mX4_become) dX4_become_15 rfl (Or.inr (Or.inl ⟨_, rfl⟩)) ?_
    refine ew_callV (M := mX4_become) dX4_become_16 vX4_38 (by repeat (first | with_reducible assumption | refine ex_eq ?_ | refine ex_ne ?_ (by omega) | exact ex_lt (by with_reducible assumption) | rw [List.length_set] | assumption)) rfl (sp_dots0 hp21) rfl (Nat.le_of_ble_eq_true rfl) ⟨Nat.le_refl _, Nat.le_refl _⟩ rfl (fun H16 r16 q16 => ?_)
    obtain ⟨rfl, rfl⟩ := q16
    refine ew_icmp_ge (M := mX4_become) (tgt := 52) dX4_become_19 rfl (fun h => absurd h (nI_ge hi (by omega))) (fun _ => ?_)
    refine ew_aload_n (M := mX4_become) dX4_become_22 rfl (Or.inr (Or.inl ⟨_, rfl⟩)) ?_
    refine ew_get (M := mX4_become) dX4_become_23 fX4_18 (by repeat (first | with_reducible assumption | refine ex_eq ?_ | refine ex_ne ?_ (by omega) | exact ex_lt (by with_reducible assumption) | rw [List.length_set] | assumption)) (by rfl) ?_
    refine ew_iload_n (M := mX4_become) dX4_become_26 rfl ?_
    refine ew_aload_n (M := mX4_become) dX4_become_27 rfl (Or.inr (Or.inl ⟨_, rfl⟩)) ?_
    refine ew_get (M := mX4_become) dX4_become_28 fX4_18 (by repeat (first | with_reducible assumption | refine ex_eq ?_ | refine ex_ne ?_ (by omega) | exact ex_lt (by with_reducible assumption) | rw [List.length_set] | assumption)) (by rfl) ?_
    refine ew_iload_n (M := mX4_become) dX4_become_31 rfl ?_
    refine ew_iald (M := mX4_become) i dX4_become_32 (by repeat (first | with_reducible assumption | refine ex_eq ?_ | refine ex_ne ?_ (by omega) | exact ex_lt (by with_reducible assumption) | rw [List.length_set] | assumption)) ⟨rfl, by omega, by decide⟩ ?_
    refine ew_iast (M := mX4_become) i dX4_become_33 (by repeat (first | with_reducible assumption | refine ex_eq ?_ | refine ex_ne ?_ (by omega) | exact ex_lt (by with_reducible assumption) | rw [List.length_set] | assumption)) ⟨rfl, by omega, by decide⟩ ?_
    refine ew_aload_n (M := mX4_become) dX4_become_34 rfl (Or.inr (Or.inl ⟨_, rfl⟩)) ?_
    refine ew_get (M := mX4_become) dX4_become_35 fX4_22 (by repeat (first | with_reducible assumption | refine ex_eq ?_ | refine ex_ne ?_ (by omega) | exact ex_lt (by with_reducible assumption) | rw [List.length_set] | assumption)) (by rfl) ?_
    refine ew_iload_n (M := mX4_become) dX4_become_38 rfl ?_
    refine ew_aload_n (M := mX4_become) dX4_become_39 rfl (Or.inr (Or.inl ⟨_, rfl⟩)) ?_
    refine ew_get (M := mX4_become) dX4_become_40 fX4_22 (by repeat (first | with_reducible assumption | refine ex_eq ?_ | refine ex_ne ?_ (by omega) | exact ex_lt (by with_reducible assumption) | rw [List.length_set] | assumption)) (by rfl) ?_
    refine ew_iload_n (M := mX4_become) dX4_become_43 rfl ?_
    refine ew_zald (M := mX4_become) i dX4_become_44 (by repeat (first | with_reducible assumption | refine ex_eq ?_ | refine ex_ne ?_ (by omega) | exact ex_lt (by with_reducible assumption) | rw [List.length_set] | assumption)) ⟨rfl, by omega, by decide⟩ ?_
    refine ew_zast (M := mX4_become) i dX4_become_45 (by repeat (first | with_reducible assumption | refine ex_eq ?_ | refine ex_ne ?_ (by omega) | exact ex_lt (by with_reducible assumption) | rw [List.length_set] | assumption)) ⟨rfl, by omega, by decide⟩ (by rw [hg2]; exact hm1) ?_
    refine ew_iinc (M := mX4_become) dX4_become_46 rfl (ex_inc i) (by decide) rfl ?_
    refine ew_goto (M := mX4_become) (tgt := 14) dX4_become_49 rfl ?_
    refine ew_ls _ ?_ (k _ (upd f i (gs i)) (upd e i (ms i)) ((hc2.set (by simp)).set (by simp)) ⟨(by repeat (first | with_reducible assumption | refine ex_eq ?_ | refine ex_ne ?_ (by omega) | exact ex_lt (by with_reducible assumption) | rw [List.length_set] | assumption)), (by repeat (first | with_reducible assumption | refine ex_eq ?_ | refine ex_ne ?_ (by omega) | exact ex_lt (by with_reducible assumption) | rw [List.length_set] | assumption)), (by repeat (first | with_reducible assumption | refine ex_eq ?_ | refine ex_ne ?_ (by omega) | exact ex_lt (by with_reducible assumption) | rw [List.length_set] | assumption))⟩ (fun j hj => ?_))
    · exact ⟨rfl, rfl, rfl, trivial⟩
    · by_cases ej : j = i
      · subst ej; simp only [upd, if_true]; exact ⟨hg1, hg2⟩
      · simp only [upd, if_neg ej]; exact hfe j (by omega)
  · intro H2 f e hc2 hp2 hfe
    obtain ⟨hp21, hp22, hp23⟩ := id hp2
    refine ew_iload_n (M := mX4_become) dX4_become_14 rfl ?_
    refine ew_aload_n (M := mX4_become) dX4_become_15 rfl (Or.inr (Or.inl ⟨_, rfl⟩)) ?_
    refine ew_callV (M := mX4_become) dX4_become_16 vX4_38 (by repeat (first | with_reducible assumption | refine ex_eq ?_ | refine ex_ne ?_ (by omega) | exact ex_lt (by with_reducible assumption) | rw [List.length_set] | assumption)) rfl (sp_dots0 hp21) rfl (Nat.le_of_ble_eq_true rfl) ⟨Nat.le_refl _, Nat.le_refl _⟩ rfl (fun H16 r16 q16 => ?_)
    obtain ⟨rfl, rfl⟩ := q16
    refine ew_icmp_ge (M := mX4_become) (tgt := 52) dX4_become_19 rfl (fun _ => ?_) (fun h => absurd (nI_le (Nat.le_refl _) (by omega)) h)
    refine ew_vret (M := mX4_become) dX4_become_52 rfl (Nat.le_refl _) (Nat.le_refl _) ?_
    refine ⟨rfl, (hc1.sub (by simp)).tr hc2 (by simp), hok, f, e, hp2, hfe⟩
def pm_gother (w h : Nat) (g g2 : Nat → Nat) : Nat := fl (fun k n => if g k = g2 k then n else n + 1) (w * h) 0
theorem sp_greysOtherThan {d : Nat} {H : ex_H} {p q w h : Nat} {g m g2 m2 : Nat → Nat} (hp : pi_is H p w h g m) (hq : pi_is H q w h g2 m2) : ex_Met mX4_greysOtherThan (d + 1) 0 0 H [.ref p, .ref q] (ex_r H (.int (nI (pm_gother w h g g2)))) := by
  obtain ⟨hok, gs, ms, hp0, hct⟩ := id hp
  obtain ⟨hz, hgm⟩ := id hok
  obtain ⟨hp1, hp2, hp3⟩ := id hp0
  obtain ⟨⟨-, hgm2⟩, gs2, ms2, ⟨hq1, hq2, hq3⟩, hct2⟩ := id hq
  have h80 := pi_80 hz
  refine ex_meth [(0, .ref p), (1, .ref q)] rfl rfl rfl (fun b => Nat.le_of_ble_eq_true rfl) ?_
  refine ew_iconst (M := mX4_greysOtherThan) dX4_greysOtherThan_0 (v := nI 0) (by decide) ?_
  refine ew_istore_n (M := mX4_greysOtherThan) dX4_greysOtherThan_1 (by decide) rfl ?_
  refine ew_iconst (M := mX4_greysOtherThan) dX4_greysOtherThan_2 (v := nI 0) (by decide) ?_
  refine ew_istore_n (M := mX4_greysOtherThan) dX4_greysOtherThan_3 (by decide) rfl ?_
  refine ew_ls [(0, .ref p), (1, .ref q), (2, .int (nI 0)), (3, .int (nI 0))] ⟨rfl, rfl, rfl, rfl, trivial⟩ ?_
  refine fl_down (F := fun k n => if g k = g2 k then n else n + 1) (P := fun i n => ex_W mX4_greysOtherThan (d + 1) 0 0 _ H 4 [(0, .ref p), (1, .ref q), (2, .int (nI n)), (3, .int (nI i))] [] 0 0) (w * h) 0 (fun i n hi _ k => ?_) ?_
  · refine ew_iload_n (M := mX4_greysOtherThan) dX4_greysOtherThan_4 rfl ?_
    refine ew_aload_n (M := mX4_greysOtherThan) dX4_greysOtherThan_5 rfl (Or.inr (Or.inl ⟨_, rfl⟩)) ?_
    refine ew_callV (M := mX4_greysOtherThan) dX4_greysOtherThan_6 vX4_38 (by repeat (first | with_reducible assumption | refine ex_eq ?_ | refine ex_ne ?_ (by omega) | exact ex_lt (by with_reducible assumption) | rw [List.length_set] | assumption)) rfl (sp_dots hp) rfl (Nat.le_of_ble_eq_true rfl) ⟨Nat.le_refl _, Nat.le_refl _⟩ rfl (fun H6 r6 q6 => ?_)
    obtain ⟨rfl, rfl⟩ := q6
    refine ew_icmp_ge (M := mX4_greysOtherThan) (tgt := 36) dX4_greysOtherThan_9 rfl (fun h => absurd h (nI_ge hi (by omega))) (fun _ => ?_)
    refine ew_aload_n (M := mX4_greysOtherThan) dX4_greysOtherThan_12 rfl (Or.inr (Or.inl ⟨_, rfl⟩)) ?_
    refine ew_get (M := mX4_greysOtherThan) dX4_greysOtherThan_13 fX4_18 (by repeat (first | with_reducible assumption | refine ex_eq ?_ | refine ex_ne ?_ (by omega) | exact ex_lt (by with_reducible assumption) | rw [List.length_set] | assumption)) (by rfl) ?_
    refine ew_iload_n (M := mX4_greysOtherThan) dX4_greysOtherThan_16 rfl ?_
    refine ew_iald (M := mX4_greysOtherThan) i dX4_greysOtherThan_17 (by repeat (first | with_reducible assumption | refine ex_eq ?_ | refine ex_ne ?_ (by omega) | exact ex_lt (by with_reducible assumption) | rw [List.length_set] | assumption)) ⟨rfl, by omega, by decide⟩ ?_
    refine ew_aload_n (M := mX4_greysOtherThan) dX4_greysOtherThan_18 rfl (Or.inr (Or.inl ⟨_, rfl⟩)) ?_
    refine ew_get (M := mX4_greysOtherThan) dX4_greysOtherThan_19 fX4_18 (by repeat (first | with_reducible assumption | refine ex_eq ?_ | refine ex_ne ?_ (by omega) | exact ex_lt (by with_reducible assumption) | rw [List.length_set] | assumption)) (by rfl) ?_
    refine ew_iload_n (M := mX4_greysOtherThan) dX4_greysOtherThan_22 rfl ?_
    refine ew_iald (M := mX4_greysOtherThan) i dX4_greysOtherThan_23 (by repeat (first | with_reducible assumption | refine ex_eq ?_ | refine ex_ne ?_ (by omega) | exact ex_lt (by with_reducible assumption) | rw [List.length_set] | assumption)) ⟨rfl, by omega, by decide⟩ ?_
    refine ew_icmp_eq (M := mX4_greysOtherThan) (tgt := 30) dX4_greysOtherThan_24 rfl (fun c24 => ?_) (fun c24 => ?_)
    · rw [(hct i hi).1, (hct2 i hi).1, nI_eq (by have := (hgm i hi).1; omega) (by have := (hgm2 i hi).1; omega)] at c24
      refine ew_iinc (M := mX4_greysOtherThan) dX4_greysOtherThan_30 rfl (ex_inc i) (by decide) rfl ?_
      refine ew_goto (M := mX4_greysOtherThan) (tgt := 4) dX4_greysOtherThan_33 rfl ?_
      simp only [c24, ↓reduceIte] at k
      refine ew_ls _ ?_ k
      exact ⟨rfl, rfl, rfl, rfl, trivial⟩
    · rw [(hct i hi).1, (hct2 i hi).1, nI_eq (by have := (hgm i hi).1; omega) (by have := (hgm2 i hi).1; omega)] at c24
      refine ew_iinc (M := mX4_greysOtherThan) dX4_greysOtherThan_27 rfl (ex_inc n) (by decide) rfl ?_
      refine ew_iinc (M := mX4_greysOtherThan) dX4_greysOtherThan_30 rfl (ex_inc i) (by decide) rfl ?_
      refine ew_goto (M := mX4_greysOtherThan) (tgt := 4) dX4_greysOtherThan_33 rfl ?_
      simp only [c24, ↓reduceIte] at k
      refine ew_ls _ ?_ k
      exact ⟨rfl, rfl, rfl, rfl, trivial⟩
  · refine ew_iload_n (M := mX4_greysOtherThan) dX4_greysOtherThan_4 rfl ?_
    refine ew_aload_n (M := mX4_greysOtherThan) dX4_greysOtherThan_5 rfl (Or.inr (Or.inl ⟨_, rfl⟩)) ?_
    refine ew_callV (M := mX4_greysOtherThan) dX4_greysOtherThan_6 vX4_38 (by repeat (first | with_reducible assumption | refine ex_eq ?_ | refine ex_ne ?_ (by omega) | exact ex_lt (by with_reducible assumption) | rw [List.length_set] | assumption)) rfl (sp_dots hp) rfl (Nat.le_of_ble_eq_true rfl) ⟨Nat.le_refl _, Nat.le_refl _⟩ rfl (fun H6 r6 q6 => ?_)
    obtain ⟨rfl, rfl⟩ := q6
    refine ew_icmp_ge (M := mX4_greysOtherThan) (tgt := 36) dX4_greysOtherThan_9 rfl (fun _ => ?_) (fun h => absurd (nI_le (Nat.le_refl _) (by omega)) h)
    refine ew_iload_n (M := mX4_greysOtherThan) dX4_greysOtherThan_36 rfl ?_
    refine ew_iret (M := mX4_greysOtherThan) dX4_greysOtherThan_37 rfl (by first | rfl | decide) (Nat.le_refl _) (Nat.le_refl _) ?_
    exact ⟨rfl, rfl⟩
def pm_dother (w h : Nat) (g m g2 m2 : Nat → Nat) : Nat := fl (fun k n => if g k = g2 k then (if m k = m2 k then n else n + 1) else n + 1) (w * h) 0
theorem sp_dotsOtherThan {d : Nat} {H : ex_H} {p q w h : Nat} {g m g2 m2 : Nat → Nat} (hp : pi_is H p w h g m) (hq : pi_is H q w h g2 m2) : ex_Met mX4_dotsOtherThan (d + 1) 0 0 H [.ref p, .ref q] (ex_r H (.int (nI (pm_dother w h g m g2 m2)))) := by
  obtain ⟨hok, gs, ms, hp0, hct⟩ := id hp
  obtain ⟨hz, hgm⟩ := id hok
  obtain ⟨hp1, hp2, hp3⟩ := id hp0
  obtain ⟨⟨-, hgm2⟩, gs2, ms2, ⟨hq1, hq2, hq3⟩, hct2⟩ := id hq
  have h80 := pi_80 hz
  refine ex_meth [(0, .ref p), (1, .ref q)] rfl rfl rfl (fun b => Nat.le_of_ble_eq_true rfl) ?_
  refine ew_aload_n (M := mX4_dotsOtherThan) dX4_dotsOtherThan_0 rfl (Or.inr (Or.inl ⟨_, rfl⟩)) ?_
  refine ew_get (M := mX4_dotsOtherThan) dX4_dotsOtherThan_1 fX4_9 (by repeat (first | with_reducible assumption | refine ex_eq ?_ | refine ex_ne ?_ (by omega) | exact ex_lt (by with_reducible assumption) | rw [List.length_set] | assumption)) (by rfl) ?_
  refine ew_aload_n (M := mX4_dotsOtherThan) dX4_dotsOtherThan_4 rfl (Or.inr (Or.inl ⟨_, rfl⟩)) ?_
  refine ew_get (M := mX4_dotsOtherThan) dX4_dotsOtherThan_5 fX4_9 (by repeat (first | with_reducible assumption | refine ex_eq ?_ | refine ex_ne ?_ (by omega) | exact ex_lt (by with_reducible assumption) | rw [List.length_set] | assumption)) (by rfl) ?_
  refine ew_icmp_ne (M := mX4_dotsOtherThan) (tgt := 22) dX4_dotsOtherThan_8 rfl (fun h => absurd rfl h) (fun _ => ?_)
  refine ew_aload_n (M := mX4_dotsOtherThan) dX4_dotsOtherThan_11 rfl (Or.inr (Or.inl ⟨_, rfl⟩)) ?_
  refine ew_get (M := mX4_dotsOtherThan) dX4_dotsOtherThan_12 fX4_15 (by repeat (first | with_reducible assumption | refine ex_eq ?_ | refine ex_ne ?_ (by omega) | exact ex_lt (by with_reducible assumption) | rw [List.length_set] | assumption)) (by rfl) ?_
  refine ew_aload_n (M := mX4_dotsOtherThan) dX4_dotsOtherThan_15 rfl (Or.inr (Or.inl ⟨_, rfl⟩)) ?_
  refine ew_get (M := mX4_dotsOtherThan) dX4_dotsOtherThan_16 fX4_15 (by repeat (first | with_reducible assumption | refine ex_eq ?_ | refine ex_ne ?_ (by omega) | exact ex_lt (by with_reducible assumption) | rw [List.length_set] | assumption)) (by rfl) ?_
  refine ew_icmp_eq (M := mX4_dotsOtherThan) (tgt := 24) dX4_dotsOtherThan_19 rfl (fun _ => ?_) (fun h => absurd rfl h)
  refine ew_iconst (M := mX4_dotsOtherThan) dX4_dotsOtherThan_24 (v := nI 0) (by decide) ?_
  refine ew_istore_n (M := mX4_dotsOtherThan) dX4_dotsOtherThan_25 (by decide) rfl ?_
  refine ew_iconst (M := mX4_dotsOtherThan) dX4_dotsOtherThan_26 (v := nI 0) (by decide) ?_
  refine ew_istore_n (M := mX4_dotsOtherThan) dX4_dotsOtherThan_27 (by decide) rfl ?_
  refine ew_ls [(0, .ref p), (1, .ref q), (2, .int (nI 0)), (3, .int (nI 0))] ⟨rfl, rfl, rfl, rfl, trivial⟩ ?_
  refine fl_down (F := fun k n => if g k = g2 k then (if m k = m2 k then n else n + 1) else n + 1) (P := fun i n => ex_W mX4_dotsOtherThan (d + 1) 0 0 _ H 28 [(0, .ref p), (1, .ref q), (2, .int (nI n)), (3, .int (nI i))] [] 0 0) (w * h) 0 (fun i n hi _ k => ?_) ?_
  · refine ew_iload_n (M := mX4_dotsOtherThan) dX4_dotsOtherThan_28 rfl ?_
    refine ew_aload_n (M := mX4_dotsOtherThan) dX4_dotsOtherThan_29 rfl (Or.inr (Or.inl ⟨_, rfl⟩)) ?_
    refine ew_callV (M := mX4_dotsOtherThan) dX4_dotsOtherThan_30 vX4_38 (by repeat (first | with_reducible assumption | refine ex_eq ?_ | refine ex_ne ?_ (by omega) | exact ex_lt (by with_reducible assumption) | rw [List.length_set] | assumption)) rfl (sp_dots hp) rfl (Nat.le_of_ble_eq_true rfl) ⟨Nat.le_refl _, Nat.le_refl _⟩ rfl (fun H30 r30 q30 => ?_)
    obtain ⟨rfl, rfl⟩ := q30
    refine ew_icmp_ge (M := mX4_dotsOtherThan) (tgt := 75) dX4_dotsOtherThan_33 rfl (fun h => absurd h (nI_ge hi (by omega))) (fun _ => ?_)
    refine ew_aload_n (M := mX4_dotsOtherThan) dX4_dotsOtherThan_36 rfl (Or.inr (Or.inl ⟨_, rfl⟩)) ?_
    refine ew_get (M := mX4_dotsOtherThan) dX4_dotsOtherThan_37 fX4_18 (by repeat (first | with_reducible assumption | refine ex_eq ?_ | refine ex_ne ?_ (by omega) | exact ex_lt (by with_reducible assumption) | rw [List.length_set] | assumption)) (by rfl) ?_
    refine ew_iload_n (M := mX4_dotsOtherThan) dX4_dotsOtherThan_40 rfl ?_
    refine ew_iald (M := mX4_dotsOtherThan) i dX4_dotsOtherThan_41 (by repeat (first | with_reducible assumption | refine ex_eq ?_ | refine ex_ne ?_ (by omega) | exact ex_lt (by with_reducible assumption) | rw [List.length_set] | assumption)) ⟨rfl, by omega, by decide⟩ ?_
    refine ew_aload_n (M := mX4_dotsOtherThan) dX4_dotsOtherThan_42 rfl (Or.inr (Or.inl ⟨_, rfl⟩)) ?_
    refine ew_get (M := mX4_dotsOtherThan) dX4_dotsOtherThan_43 fX4_18 (by repeat (first | with_reducible assumption | refine ex_eq ?_ | refine ex_ne ?_ (by omega) | exact ex_lt (by with_reducible assumption) | rw [List.length_set] | assumption)) (by rfl) ?_
    refine ew_iload_n (M := mX4_dotsOtherThan) dX4_dotsOtherThan_46 rfl ?_
    refine ew_iald (M := mX4_dotsOtherThan) i dX4_dotsOtherThan_47 (by repeat (first | with_reducible assumption | refine ex_eq ?_ | refine ex_ne ?_ (by omega) | exact ex_lt (by with_reducible assumption) | rw [List.length_set] | assumption)) ⟨rfl, by omega, by decide⟩ ?_
    refine ew_icmp_ne (M := mX4_dotsOtherThan) (tgt := 66) dX4_dotsOtherThan_48 rfl (fun c48 => ?_) (fun c48 => ?_)
    · rw [(hct i hi).1, (hct2 i hi).1, nI_eq (by have := (hgm i hi).1; omega) (by have := (hgm2 i hi).1; omega)] at c48
      refine ew_iinc (M := mX4_dotsOtherThan) dX4_dotsOtherThan_66 rfl (ex_inc n) (by decide) rfl ?_
      refine ew_iinc (M := mX4_dotsOtherThan) dX4_dotsOtherThan_69 rfl (ex_inc i) (by decide) rfl ?_
      refine ew_goto (M := mX4_dotsOtherThan) (tgt := 28) dX4_dotsOtherThan_72 rfl ?_
      simp only [c48, ↓reduceIte] at k
      try simp only [c63, ↓reduceIte] at k
      refine ew_ls _ ?_ k
      exact ⟨rfl, rfl, rfl, rfl, trivial⟩
    · rw [(hct i hi).1, (hct2 i hi).1, nI_eq (by have := (hgm i hi).1; omega) (by have := (hgm2 i hi).1; omega)] at c48
      refine ew_aload_n (M := mX4_dotsOtherThan) dX4_dotsOtherThan_51 rfl (Or.inr (Or.inl ⟨_, rfl⟩)) ?_
      refine ew_get (M := mX4_dotsOtherThan) dX4_dotsOtherThan_52 fX4_22 (by repeat (first | with_reducible assumption | refine ex_eq ?_ | refine ex_ne ?_ (by omega) | exact ex_lt (by with_reducible assumption) | rw [List.length_set] | assumption)) (by rfl) ?_
      refine ew_iload_n (M := mX4_dotsOtherThan) dX4_dotsOtherThan_55 rfl ?_
      refine ew_zald (M := mX4_dotsOtherThan) i dX4_dotsOtherThan_56 (by repeat (first | with_reducible assumption | refine ex_eq ?_ | refine ex_ne ?_ (by omega) | exact ex_lt (by with_reducible assumption) | rw [List.length_set] | assumption)) ⟨rfl, by omega, by decide⟩ ?_
      refine ew_aload_n (M := mX4_dotsOtherThan) dX4_dotsOtherThan_57 rfl (Or.inr (Or.inl ⟨_, rfl⟩)) ?_
      refine ew_get (M := mX4_dotsOtherThan) dX4_dotsOtherThan_58 fX4_22 (by repeat (first | with_reducible assumption | refine ex_eq ?_ | refine ex_ne ?_ (by omega) | exact ex_lt (by with_reducible assumption) | rw [List.length_set] | assumption)) (by rfl) ?_
      refine ew_iload_n (M := mX4_dotsOtherThan) dX4_dotsOtherThan_61 rfl ?_
      refine ew_zald (M := mX4_dotsOtherThan) i dX4_dotsOtherThan_62 (by repeat (first | with_reducible assumption | refine ex_eq ?_ | refine ex_ne ?_ (by omega) | exact ex_lt (by with_reducible assumption) | rw [List.length_set] | assumption)) ⟨rfl, by omega, by decide⟩ ?_
      refine ew_icmp_eq (M := mX4_dotsOtherThan) (tgt := 69) dX4_dotsOtherThan_63 rfl (fun c63 => ?_) (fun c63 => ?_)
      · rw [(hct i hi).2, (hct2 i hi).2, nI_eq (by have := (hgm i hi).2; omega) (by have := (hgm2 i hi).2; omega)] at c63
        refine ew_iinc (M := mX4_dotsOtherThan) dX4_dotsOtherThan_69 rfl (ex_inc i) (by decide) rfl ?_
        refine ew_goto (M := mX4_dotsOtherThan) (tgt := 28) dX4_dotsOtherThan_72 rfl ?_
        simp only [c48, ↓reduceIte] at k
        try simp only [c63, ↓reduceIte] at k
        refine ew_ls _ ?_ k
        exact ⟨rfl, rfl, rfl, rfl, trivial⟩
      · rw [(hct i hi).2, (hct2 i hi).2, nI_eq (by have := (hgm i hi).2; omega) (by have := (hgm2 i hi).2; omega)] at c63
        refine ew_iinc (M := mX4_dotsOtherThan) dX4_dotsOtherThan_66 rfl (ex_inc n) (by decide) rfl ?_
        refine ew_iinc (M := mX4_dotsOtherThan) dX4_dotsOtherThan_69 rfl (ex_inc i) (by decide) rfl ?_
        refine ew_goto (M := mX4_dotsOtherThan) (tgt := 28) dX4_dotsOtherThan_72 rfl ?_
        simp only [c48, ↓reduceIte] at k
        try simp only [c63, ↓reduceIte] at k
        refine ew_ls _ ?_ k
        exact ⟨rfl, rfl, rfl, rfl, trivial⟩
  · refine ew_iload_n (M := mX4_dotsOtherThan) dX4_dotsOtherThan_28 rfl ?_
    refine ew_aload_n (M := mX4_dotsOtherThan) dX4_dotsOtherThan_29 rfl (Or.inr (Or.inl ⟨_, rfl⟩)) ?_
    refine ew_callV (M := mX4_dotsOtherThan) dX4_dotsOtherThan_30 vX4_38 (by repeat (first | with_reducible assumption | refine ex_eq ?_ | refine ex_ne ?_ (by omega) | exact ex_lt (by with_reducible assumption) | rw [List.length_set] | assumption)) rfl (sp_dots hp) rfl (Nat.le_of_ble_eq_true rfl) ⟨Nat.le_refl _, Nat.le_refl _⟩ rfl (fun H30 r30 q30 => ?_)
    obtain ⟨rfl, rfl⟩ := q30
    refine ew_icmp_ge (M := mX4_dotsOtherThan) (tgt := 75) dX4_dotsOtherThan_33 rfl (fun _ => ?_) (fun h => absurd (nI_le (Nat.le_refl _) (by omega)) h)
    refine ew_iload_n (M := mX4_dotsOtherThan) dX4_dotsOtherThan_75 rfl ?_
    refine ew_iret (M := mX4_dotsOtherThan) dX4_dotsOtherThan_76 rfl (by first | rfl | decide) (Nat.le_refl _) (Nat.le_refl _) ?_
    exact ⟨rfl, rfl⟩
theorem sp_dotsOtherThan_n {d : Nat} {H : ex_H} {p q w h w2 h2 : Nat} {g m g2 m2 : Nat → Nat} (hp : pi_is H p w h g m) (hq : pi_is H q w2 h2 g2 m2) (hn : ¬ (w = w2 ∧ h = h2)) : ex_Met mX4_dotsOtherThan (d + 1) 0 0 H [.ref p, .ref q] (ex_r H (.int (-1))) := by
  obtain ⟨⟨hz, hgm⟩, gs, ms, ⟨hp1, hp2, hp3⟩, hct⟩ := id hp
  obtain ⟨⟨hzz, hgm2⟩, gs2, ms2, ⟨hq1, hq2, hq3⟩, hct2⟩ := id hq
  obtain ⟨hz1, hz2, hz3, hz4⟩ := id hz
  obtain ⟨hy1, hy2, hy3, hy4⟩ := id hzz
  refine ex_meth [(0, .ref p), (1, .ref q)] rfl rfl rfl (fun b => Nat.le_of_ble_eq_true rfl) ?_
  refine ew_aload_n (M := mX4_dotsOtherThan) dX4_dotsOtherThan_0 rfl (Or.inr (Or.inl ⟨_, rfl⟩)) ?_
  refine ew_get (M := mX4_dotsOtherThan) dX4_dotsOtherThan_1 fX4_9 (by repeat (first | with_reducible assumption | refine ex_eq ?_ | refine ex_ne ?_ (by omega) | exact ex_lt (by with_reducible assumption) | rw [List.length_set] | assumption)) (by rfl) ?_
  refine ew_aload_n (M := mX4_dotsOtherThan) dX4_dotsOtherThan_4 rfl (Or.inr (Or.inl ⟨_, rfl⟩)) ?_
  refine ew_get (M := mX4_dotsOtherThan) dX4_dotsOtherThan_5 fX4_9 (by repeat (first | with_reducible assumption | refine ex_eq ?_ | refine ex_ne ?_ (by omega) | exact ex_lt (by with_reducible assumption) | rw [List.length_set] | assumption)) (by rfl) ?_
  refine ew_icmp_ne (M := mX4_dotsOtherThan) (tgt := 22) dX4_dotsOtherThan_8 rfl (fun c8 => ?_) (fun c8 => ?_)
  · refine ew_iconst (M := mX4_dotsOtherThan) dX4_dotsOtherThan_22 (v := (-1)) (by decide) ?_
    refine ew_iret (M := mX4_dotsOtherThan) dX4_dotsOtherThan_23 rfl (by first | rfl | decide) (Nat.le_refl _) (Nat.le_refl _) ?_
    exact ⟨rfl, rfl⟩
  · rw [nI_eq (by omega) (by omega)] at c8
    refine ew_aload_n (M := mX4_dotsOtherThan) dX4_dotsOtherThan_11 rfl (Or.inr (Or.inl ⟨_, rfl⟩)) ?_
    refine ew_get (M := mX4_dotsOtherThan) dX4_dotsOtherThan_12 fX4_15 (by repeat (first | with_reducible assumption | refine ex_eq ?_ | refine ex_ne ?_ (by omega) | exact ex_lt (by with_reducible assumption) | rw [List.length_set] | assumption)) (by rfl) ?_
    refine ew_aload_n (M := mX4_dotsOtherThan) dX4_dotsOtherThan_15 rfl (Or.inr (Or.inl ⟨_, rfl⟩)) ?_
    refine ew_get (M := mX4_dotsOtherThan) dX4_dotsOtherThan_16 fX4_15 (by repeat (first | with_reducible assumption | refine ex_eq ?_ | refine ex_ne ?_ (by omega) | exact ex_lt (by with_reducible assumption) | rw [List.length_set] | assumption)) (by rfl) ?_
    refine ew_icmp_eq (M := mX4_dotsOtherThan) (tgt := 24) dX4_dotsOtherThan_19 rfl (fun c19 => ?_) (fun c19 => ?_)
    · rw [nI_eq (by omega) (by omega)] at c19
      exact absurd ⟨c8, c19⟩ hn
    · refine ew_iconst (M := mX4_dotsOtherThan) dX4_dotsOtherThan_22 (v := (-1)) (by decide) ?_
      refine ew_iret (M := mX4_dotsOtherThan) dX4_dotsOtherThan_23 rfl (by first | rfl | decide) (Nat.le_refl _) (Nat.le_refl _) ?_
      exact ⟨rfl, rfl⟩
