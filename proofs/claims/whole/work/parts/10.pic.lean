theorem sp_within_y {d : Nat} {H : ex_H} {x l g : Int32} (h1 : l ≤ x) (h2 : x ≤ g) : ex_Met mX9_within d 0 0 H [.int x, .int l, .int g] (ex_r H (.int (nI 1))) := by
  refine ex_meth [(0, .int x), (1, .int l), (2, .int g)] rfl rfl rfl (fun b => Nat.le_of_ble_eq_true rfl) ?_
  refine ew_iload_n (M := mX9_within) dX9_within_0 rfl ?_
  refine ew_iload_n (M := mX9_within) dX9_within_1 rfl ?_
  refine ew_icmp_gt (M := mX9_within) (tgt := 14) dX9_within_2 rfl (fun h => absurd h (Int32.not_lt.mpr h1)) (fun _ => ?_)
  refine ew_iload_n (M := mX9_within) dX9_within_5 rfl ?_
  refine ew_iload_n (M := mX9_within) dX9_within_6 rfl ?_
  refine ew_icmp_gt (M := mX9_within) (tgt := 14) dX9_within_7 rfl (fun h => absurd h (Int32.not_lt.mpr h2)) (fun _ => ?_)
  refine ew_iconst (M := mX9_within) dX9_within_10 (v := nI 1) (by decide) ?_
  refine ew_goto (M := mX9_within) (tgt := 15) dX9_within_11 rfl ?_
  refine ew_iret (M := mX9_within) dX9_within_15 rfl (by first | rfl | decide) (Nat.le_refl _) (Nat.le_refl _) ?_
  exact ⟨rfl, rfl⟩
theorem sp_within_n {d : Nat} {H : ex_H} {x l g : Int32} (h : ¬ (l ≤ x ∧ x ≤ g)) : ex_Met mX9_within d 0 0 H [.int x, .int l, .int g] (ex_r H (.int (nI 0))) := by
  refine ex_meth [(0, .int x), (1, .int l), (2, .int g)] rfl rfl rfl (fun b => Nat.le_of_ble_eq_true rfl) ?_
  refine ew_iload_n (M := mX9_within) dX9_within_0 rfl ?_
  refine ew_iload_n (M := mX9_within) dX9_within_1 rfl ?_
  refine ew_icmp_gt (M := mX9_within) (tgt := 14) dX9_within_2 rfl (fun c2 => ?_) (fun c2 => ?_)
  · refine ew_iconst (M := mX9_within) dX9_within_14 (v := nI 0) (by decide) ?_
    refine ew_iret (M := mX9_within) dX9_within_15 rfl (by first | rfl | decide) (Nat.le_refl _) (Nat.le_refl _) ?_
    exact ⟨rfl, rfl⟩
  · refine ew_iload_n (M := mX9_within) dX9_within_5 rfl ?_
    refine ew_iload_n (M := mX9_within) dX9_within_6 rfl ?_
    refine ew_icmp_gt (M := mX9_within) (tgt := 14) dX9_within_7 rfl (fun c7 => ?_) (fun c7 => ?_)
    · refine ew_iconst (M := mX9_within) dX9_within_14 (v := nI 0) (by decide) ?_
      refine ew_iret (M := mX9_within) dX9_within_15 rfl (by first | rfl | decide) (Nat.le_refl _) (Nat.le_refl _) ?_
      exact ⟨rfl, rfl⟩
    · exact absurd ⟨Int32.not_lt.mp c2, Int32.not_lt.mp c7⟩ h
/-- a picture's cells: the object at p, its greys at p + 1, its masks at p + 2 -/
def pi_at (H : ex_H) (p w h : Nat) (gs ms : Nat → Int32) : Prop := H[p]? = some (ob 4 [.int (nI w), .int (nI h), .ref (p + 1), .ref (p + 2)]) ∧ H[p + 1]? = some (ar .int 80 gs) ∧ H[p + 2]? = some (ar .boolean 80 ms)
def pi_sz (w h : Nat) : Prop := 1 ≤ w ∧ w ≤ 10 ∧ 1 ≤ h ∧ h ≤ 8
/-- the picture w by h with the greys g and the masks m, by the dots' numbers -/
def pi_ok (w h : Nat) (g m : Nat → Nat) : Prop := pi_sz w h ∧ ∀ k, k < w * h → g k < 256 ∧ m k < 2
def pi_ct (w h : Nat) (g m : Nat → Nat) (gs ms : Nat → Int32) : Prop := ∀ k, k < w * h → gs k = nI (g k) ∧ ms k = nI (m k)
def pi_is (H : ex_H) (p w h : Nat) (g m : Nat → Nat) : Prop := pi_ok w h g m ∧ ∃ gs ms, pi_at H p w h gs ms ∧ pi_ct w h g m gs ms
theorem pi_lt {w h i j : Nat} (hi : i < w) (hj : j < h) : j * w + i < w * h := by
  have a1 : (j + 1) * w ≤ h * w := Nat.mul_le_mul_right w hj
  rw [Nat.succ_mul, Nat.mul_comm h w] at a1
  omega
theorem pi_80 {w h : Nat} (hz : pi_sz w h) : w * h ≤ 80 := by
  obtain ⟨h1, h2, h3, h4⟩ := hz
  exact Nat.le_trans (Nat.mul_le_mul h2 h4) (by decide)
theorem pi_at.ch {H H' : ex_H} {L : List Nat} {p w h : Nat} {gs ms : Nat → Int32} (hc : ex_ch H H' L) (hp : pi_at H p w h gs ms) (h0 : p ∉ L) (h1 : p + 1 ∉ L) (h2 : p + 2 ∉ L) : pi_at H' p w h gs ms := ⟨hc.at hp.1 h0, hc.at hp.2.1 h1, hc.at hp.2.2 h2⟩
theorem pi_is.ch {H H' : ex_H} {L : List Nat} {p w h : Nat} {g m : Nat → Nat} (hc : ex_ch H H' L) (hp : pi_is H p w h g m) (h0 : p ∉ L) (h1 : p + 1 ∉ L) (h2 : p + 2 ∉ L) : pi_is H' p w h g m := by
  obtain ⟨a, gs, ms, b, c⟩ := hp
  exact ⟨a, gs, ms, b.ch hc h0 h1 h2, c⟩
theorem sp_dots {d : Nat} {H : ex_H} {p w h : Nat} {g m : Nat → Nat} (hp : pi_is H p w h g m) : ex_Met mX4_dots d 0 0 H [.ref p] (ex_r H (.int (nI (w * h)))) := by
  obtain ⟨hok, gs, ms, hp0, hct⟩ := id hp
  obtain ⟨hz, hgm⟩ := id hok
  obtain ⟨hp1, hp2, hp3⟩ := id hp0
  have h80 := pi_80 hz
  obtain ⟨hz1, hz2, hz3, hz4⟩ := id hz
  refine ex_meth [(0, .ref p)] rfl rfl rfl (fun b => Nat.le_of_ble_eq_true rfl) ?_
  refine ew_aload_n (M := mX4_dots) dX4_dots_0 rfl (Or.inr (Or.inl ⟨_, rfl⟩)) ?_
  refine ew_get (M := mX4_dots) dX4_dots_1 fX4_9 (by repeat (first | with_reducible assumption | refine ex_eq ?_ | refine ex_ne ?_ (by omega) | exact ex_lt (by with_reducible assumption) | rw [List.length_set] | assumption)) (by rfl) ?_
  refine ew_aload_n (M := mX4_dots) dX4_dots_4 rfl (Or.inr (Or.inl ⟨_, rfl⟩)) ?_
  refine ew_get (M := mX4_dots) dX4_dots_5 fX4_15 (by repeat (first | with_reducible assumption | refine ex_eq ?_ | refine ex_ne ?_ (by omega) | exact ex_lt (by with_reducible assumption) | rw [List.length_set] | assumption)) (by rfl) ?_
  refine ew_imul (M := mX4_dots) dX4_dots_8 ?_
  refine ew_iret (M := mX4_dots) dX4_dots_9 rfl (by first | rfl | decide) (Nat.le_refl _) (Nat.le_refl _) ?_
  exact ⟨rfl, by rw [pk_mul]⟩
theorem sp_has_y {d : Nat} {H : ex_H} {p w h : Nat} {g m : Nat → Nat} (hp : pi_is H p w h g m) {i j : Nat} (hi : i < w) (hj : j < h) : ex_Met mX4_has d 0 0 H [.ref p, .int (nI i), .int (nI j)] (ex_r H (.int (nI 1))) := by
  obtain ⟨hok, gs, ms, hp0, hct⟩ := id hp
  obtain ⟨hz, hgm⟩ := id hok
  obtain ⟨hp1, hp2, hp3⟩ := id hp0
  have h80 := pi_80 hz
  obtain ⟨hz1, hz2, hz3, hz4⟩ := id hz
  refine ex_meth [(0, .ref p), (1, .int (nI i)), (2, .int (nI j))] rfl rfl rfl (fun b => Nat.le_of_ble_eq_true rfl) ?_
  refine ew_iconst (M := mX4_has) dX4_has_0 (v := nI 0) (by decide) ?_
  refine ew_iload_n (M := mX4_has) dX4_has_1 rfl ?_
  refine ew_icmp_gt (M := mX4_has) (tgt := 30) dX4_has_2 rfl (fun h => absurd h (nI_nlt (Nat.zero_le i) (by omega))) (fun _ => ?_)
  refine ew_iload_n (M := mX4_has) dX4_has_5 rfl ?_
  refine ew_aload_n (M := mX4_has) dX4_has_6 rfl (Or.inr (Or.inl ⟨_, rfl⟩)) ?_
  refine ew_get (M := mX4_has) dX4_has_7 fX4_9 (by repeat (first | with_reducible assumption | refine ex_eq ?_ | refine ex_ne ?_ (by omega) | exact ex_lt (by with_reducible assumption) | rw [List.length_set] | assumption)) (by rfl) ?_
  refine ew_icmp_ge (M := mX4_has) (tgt := 30) dX4_has_10 rfl (fun h => absurd h (nI_ge hi (by omega))) (fun _ => ?_)
  refine ew_iconst (M := mX4_has) dX4_has_13 (v := nI 0) (by decide) ?_
  refine ew_iload_n (M := mX4_has) dX4_has_14 rfl ?_
  refine ew_icmp_gt (M := mX4_has) (tgt := 30) dX4_has_15 rfl (fun h => absurd h (nI_nlt (Nat.zero_le j) (by omega))) (fun _ => ?_)
  refine ew_iload_n (M := mX4_has) dX4_has_18 rfl ?_
  refine ew_aload_n (M := mX4_has) dX4_has_19 rfl (Or.inr (Or.inl ⟨_, rfl⟩)) ?_
  refine ew_get (M := mX4_has) dX4_has_20 fX4_15 (by repeat (first | with_reducible assumption | refine ex_eq ?_ | refine ex_ne ?_ (by omega) | exact ex_lt (by with_reducible assumption) | rw [List.length_set] | assumption)) (by rfl) ?_
  refine ew_icmp_ge (M := mX4_has) (tgt := 30) dX4_has_23 rfl (fun h => absurd h (nI_ge hj (by omega))) (fun _ => ?_)
  refine ew_iconst (M := mX4_has) dX4_has_26 (v := nI 1) (by decide) ?_
  refine ew_goto (M := mX4_has) (tgt := 31) dX4_has_27 rfl ?_
  refine ew_iret (M := mX4_has) dX4_has_31 rfl (by first | rfl | decide) (Nat.le_refl _) (Nat.le_refl _) ?_
  exact ⟨rfl, rfl⟩
/-- a dot that there is -/
def pi_in (w h : Nat) (x y : Int32) : Prop := ∃ i j, x = nI i ∧ i < w ∧ y = nI j ∧ j < h
theorem pi_in_of {w h : Nat} {x y : Int32} (hw : w < 2 ^ 31) (hh : h < 2 ^ 31) (h1 : ¬ x < nI 0) (h2 : ¬ nI w ≤ x) (h3 : ¬ y < nI 0) (h4 : ¬ nI h ≤ y) : pi_in w h x y := by
  rw [nI_0] at h1 h3
  obtain ⟨i, hi, rfl⟩ := nI_of h1
  obtain ⟨j, hj, rfl⟩ := nI_of h3
  exact ⟨i, j, rfl, Nat.not_le.mp (fun q => h2 (nI_le q hi)), rfl, Nat.not_le.mp (fun q => h4 (nI_le q hj))⟩
theorem sp_has_n {d : Nat} {H : ex_H} {p w h : Nat} {g m : Nat → Nat} (hp : pi_is H p w h g m) {x y : Int32} (hn : ¬ pi_in w h x y) : ex_Met mX4_has d 0 0 H [.ref p, .int x, .int y] (ex_r H (.int (nI 0))) := by
  obtain ⟨hok, gs, ms, hp0, hct⟩ := id hp
  obtain ⟨hz, hgm⟩ := id hok
  obtain ⟨hp1, hp2, hp3⟩ := id hp0
  have h80 := pi_80 hz
  obtain ⟨hz1, hz2, hz3, hz4⟩ := id hz
  refine ex_meth [(0, .ref p), (1, .int x), (2, .int y)] rfl rfl rfl (fun b => Nat.le_of_ble_eq_true rfl) ?_
  refine ew_iconst (M := mX4_has) dX4_has_0 (v := nI 0) (by decide) ?_
  refine ew_iload_n (M := mX4_has) dX4_has_1 rfl ?_
  refine ew_icmp_gt (M := mX4_has) (tgt := 30) dX4_has_2 rfl (fun c2 => ?_) (fun c2 => ?_)
  · refine ew_iconst (M := mX4_has) dX4_has_30 (v := nI 0) (by decide) ?_
    refine ew_iret (M := mX4_has) dX4_has_31 rfl (by first | rfl | decide) (Nat.le_refl _) (Nat.le_refl _) ?_
    exact ⟨rfl, rfl⟩
  · refine ew_iload_n (M := mX4_has) dX4_has_5 rfl ?_
    refine ew_aload_n (M := mX4_has) dX4_has_6 rfl (Or.inr (Or.inl ⟨_, rfl⟩)) ?_
    refine ew_get (M := mX4_has) dX4_has_7 fX4_9 (by repeat (first | with_reducible assumption | refine ex_eq ?_ | refine ex_ne ?_ (by omega) | exact ex_lt (by with_reducible assumption) | rw [List.length_set] | assumption)) (by rfl) ?_
    refine ew_icmp_ge (M := mX4_has) (tgt := 30) dX4_has_10 rfl (fun c10 => ?_) (fun c10 => ?_)
    · refine ew_iconst (M := mX4_has) dX4_has_30 (v := nI 0) (by decide) ?_
      refine ew_iret (M := mX4_has) dX4_has_31 rfl (by first | rfl | decide) (Nat.le_refl _) (Nat.le_refl _) ?_
      exact ⟨rfl, rfl⟩
    · refine ew_iconst (M := mX4_has) dX4_has_13 (v := nI 0) (by decide) ?_
      refine ew_iload_n (M := mX4_has) dX4_has_14 rfl ?_
      refine ew_icmp_gt (M := mX4_has) (tgt := 30) dX4_has_15 rfl (fun c15 => ?_) (fun c15 => ?_)
      · refine ew_iconst (M := mX4_has) dX4_has_30 (v := nI 0) (by decide) ?_
        refine ew_iret (M := mX4_has) dX4_has_31 rfl (by first | rfl | decide) (Nat.le_refl _) (Nat.le_refl _) ?_
        exact ⟨rfl, rfl⟩
      · refine ew_iload_n (M := mX4_has) dX4_has_18 rfl ?_
        refine ew_aload_n (M := mX4_has) dX4_has_19 rfl (Or.inr (Or.inl ⟨_, rfl⟩)) ?_
        refine ew_get (M := mX4_has) dX4_has_20 fX4_15 (by repeat (first | with_reducible assumption | refine ex_eq ?_ | refine ex_ne ?_ (by omega) | exact ex_lt (by with_reducible assumption) | rw [List.length_set] | assumption)) (by rfl) ?_
        refine ew_icmp_ge (M := mX4_has) (tgt := 30) dX4_has_23 rfl (fun c23 => ?_) (fun c23 => ?_)
        · refine ew_iconst (M := mX4_has) dX4_has_30 (v := nI 0) (by decide) ?_
          refine ew_iret (M := mX4_has) dX4_has_31 rfl (by first | rfl | decide) (Nat.le_refl _) (Nat.le_refl _) ?_
          exact ⟨rfl, rfl⟩
        · exact absurd (pi_in_of (by omega) (by omega) c2 c10 c15 c23) hn
theorem sp_greyOf {d : Nat} {H : ex_H} {p w h : Nat} {g m : Nat → Nat} (hp : pi_is H p w h g m) {i j : Nat} (hi : i < w) (hj : j < h) : ex_Met mX4_greyOf (d + 1) 0 0 H [.ref p, .int (nI i), .int (nI j)] (ex_r H (.int (nI (g (j * w + i))))) := by
  obtain ⟨hok, gs, ms, hp0, hct⟩ := id hp
  obtain ⟨hz, hgm⟩ := id hok
  obtain ⟨hp1, hp2, hp3⟩ := id hp0
  have h80 := pi_80 hz
  obtain ⟨hz1, hz2, hz3, hz4⟩ := id hz
  have hb := pi_lt hi hj
  refine ex_meth [(0, .ref p), (1, .int (nI i)), (2, .int (nI j))] rfl rfl rfl (fun b => Nat.le_of_ble_eq_true rfl) ?_
  refine ew_aload_n (M := mX4_greyOf) dX4_greyOf_0 rfl (Or.inr (Or.inl ⟨_, rfl⟩)) ?_
  refine ew_iload_n (M := mX4_greyOf) dX4_greyOf_1 rfl ?_
  refine ew_iload_n (M := mX4_greyOf) dX4_greyOf_2 rfl ?_
  refine ew_callV (M := mX4_greyOf) dX4_greyOf_3 vX4_26 (by repeat (first | with_reducible assumption | refine ex_eq ?_ | refine ex_ne ?_ (by omega) | exact ex_lt (by with_reducible assumption) | rw [List.length_set] | assumption)) rfl (sp_has_y hp hi hj) rfl (Nat.le_of_ble_eq_true rfl) ⟨Nat.le_refl _, Nat.le_refl _⟩ rfl (fun H3 r3 q3 => ?_)
  obtain ⟨rfl, rfl⟩ := q3
  refine ew_if_eq (M := mX4_greyOf) (tgt := 25) dX4_greyOf_6 rfl (fun h => absurd h (by decide)) (fun _ => ?_)
  refine ew_aload_n (M := mX4_greyOf) dX4_greyOf_9 rfl (Or.inr (Or.inl ⟨_, rfl⟩)) ?_
  refine ew_get (M := mX4_greyOf) dX4_greyOf_10 fX4_18 (by repeat (first | with_reducible assumption | refine ex_eq ?_ | refine ex_ne ?_ (by omega) | exact ex_lt (by with_reducible assumption) | rw [List.length_set] | assumption)) (by rfl) ?_
  refine ew_iload_n (M := mX4_greyOf) dX4_greyOf_13 rfl ?_
  refine ew_aload_n (M := mX4_greyOf) dX4_greyOf_14 rfl (Or.inr (Or.inl ⟨_, rfl⟩)) ?_
  refine ew_get (M := mX4_greyOf) dX4_greyOf_15 fX4_9 (by repeat (first | with_reducible assumption | refine ex_eq ?_ | refine ex_ne ?_ (by omega) | exact ex_lt (by with_reducible assumption) | rw [List.length_set] | assumption)) (by rfl) ?_
  refine ew_imul (M := mX4_greyOf) dX4_greyOf_18 ?_
  refine ew_iload_n (M := mX4_greyOf) dX4_greyOf_19 rfl ?_
  refine ew_iadd (M := mX4_greyOf) dX4_greyOf_20 ?_
  refine ew_iald (M := mX4_greyOf) (j * w + i) dX4_greyOf_21 (by repeat (first | with_reducible assumption | refine ex_eq ?_ | refine ex_ne ?_ (by omega) | exact ex_lt (by with_reducible assumption) | rw [List.length_set] | assumption)) ⟨by rw [pk_mul, nI_add], by omega, by decide⟩ ?_
  refine ew_goto (M := mX4_greyOf) (tgt := 26) dX4_greyOf_22 rfl ?_
  refine ew_iret (M := mX4_greyOf) dX4_greyOf_26 rfl (by first | rfl | decide) (Nat.le_refl _) (Nat.le_refl _) ?_
  exact ⟨rfl, by rw [(hct _ hb).1]⟩
theorem sp_isMasked {d : Nat} {H : ex_H} {p w h : Nat} {g m : Nat → Nat} (hp : pi_is H p w h g m) {i j : Nat} (hi : i < w) (hj : j < h) : ex_Met mX4_isMasked (d + 1) 0 0 H [.ref p, .int (nI i), .int (nI j)] (ex_r H (.int (nI (m (j * w + i))))) := by
  obtain ⟨hok, gs, ms, hp0, hct⟩ := id hp
  obtain ⟨hz, hgm⟩ := id hok
  obtain ⟨hp1, hp2, hp3⟩ := id hp0
  have h80 := pi_80 hz
  obtain ⟨hz1, hz2, hz3, hz4⟩ := id hz
  have hb := pi_lt hi hj
  have hm2 := (hgm _ hb).2
  have hms := (hct _ hb).2
  refine ex_meth [(0, .ref p), (1, .int (nI i)), (2, .int (nI j))] rfl rfl rfl (fun b => Nat.le_of_ble_eq_true rfl) ?_
  refine ew_aload_n (M := mX4_isMasked) dX4_isMasked_0 rfl (Or.inr (Or.inl ⟨_, rfl⟩)) ?_
  refine ew_iload_n (M := mX4_isMasked) dX4_isMasked_1 rfl ?_
  refine ew_iload_n (M := mX4_isMasked) dX4_isMasked_2 rfl ?_
  refine ew_callV (M := mX4_isMasked) dX4_isMasked_3 vX4_26 (by repeat (first | with_reducible assumption | refine ex_eq ?_ | refine ex_ne ?_ (by omega) | exact ex_lt (by with_reducible assumption) | rw [List.length_set] | assumption)) rfl (sp_has_y hp hi hj) rfl (Nat.le_of_ble_eq_true rfl) ⟨Nat.le_refl _, Nat.le_refl _⟩ rfl (fun H3 r3 q3 => ?_)
  obtain ⟨rfl, rfl⟩ := q3
  refine ew_if_eq (M := mX4_isMasked) (tgt := 29) dX4_isMasked_6 rfl (fun h => absurd h (by decide)) (fun _ => ?_)
  refine ew_aload_n (M := mX4_isMasked) dX4_isMasked_9 rfl (Or.inr (Or.inl ⟨_, rfl⟩)) ?_
  refine ew_get (M := mX4_isMasked) dX4_isMasked_10 fX4_22 (by repeat (first | with_reducible assumption | refine ex_eq ?_ | refine ex_ne ?_ (by omega) | exact ex_lt (by with_reducible assumption) | rw [List.length_set] | assumption)) (by rfl) ?_
  refine ew_iload_n (M := mX4_isMasked) dX4_isMasked_13 rfl ?_
  refine ew_aload_n (M := mX4_isMasked) dX4_isMasked_14 rfl (Or.inr (Or.inl ⟨_, rfl⟩)) ?_
  refine ew_get (M := mX4_isMasked) dX4_isMasked_15 fX4_9 (by repeat (first | with_reducible assumption | refine ex_eq ?_ | refine ex_ne ?_ (by omega) | exact ex_lt (by with_reducible assumption) | rw [List.length_set] | assumption)) (by rfl) ?_
  refine ew_imul (M := mX4_isMasked) dX4_isMasked_18 ?_
  refine ew_iload_n (M := mX4_isMasked) dX4_isMasked_19 rfl ?_
  refine ew_iadd (M := mX4_isMasked) dX4_isMasked_20 ?_
  refine ew_zald (M := mX4_isMasked) (j * w + i) dX4_isMasked_21 (by repeat (first | with_reducible assumption | refine ex_eq ?_ | refine ex_ne ?_ (by omega) | exact ex_lt (by with_reducible assumption) | rw [List.length_set] | assumption)) ⟨by rw [pk_mul, nI_add], by omega, by decide⟩ ?_
  refine ew_if_eq (M := mX4_isMasked) (tgt := 29) dX4_isMasked_22 rfl (fun c22 => ?_) (fun c22 => ?_)
  · rw [hms, nI_z (by omega)] at c22
    refine ew_iconst (M := mX4_isMasked) dX4_isMasked_29 (v := nI 0) (by decide) ?_
    refine ew_iret (M := mX4_isMasked) dX4_isMasked_30 rfl (by first | rfl | decide) (Nat.le_refl _) (Nat.le_refl _) ?_
    exact ⟨rfl, by first | (rw [c22]; done) | rw [show m (j * w + i) = 1 by omega]⟩
  · rw [hms, nI_z (by omega)] at c22
    refine ew_iconst (M := mX4_isMasked) dX4_isMasked_25 (v := nI 1) (by decide) ?_
    refine ew_goto (M := mX4_isMasked) (tgt := 30) dX4_isMasked_26 rfl ?_
    refine ew_iret (M := mX4_isMasked) dX4_isMasked_30 rfl (by first | rfl | decide) (Nat.le_refl _) (Nat.le_refl _) ?_
    exact ⟨rfl, by first | (rw [c22]; done) | rw [show m (j * w + i) = 1 by omega]⟩
theorem sp_setGrey {d : Nat} {H : ex_H} {p w h : Nat} {g m : Nat → Nat} (hp : pi_is H p w h g m) {i j v : Nat} (hi : i < w) (hj : j < h) (hv : v < 256) : ex_Met mX4_setGrey (d + 1) 0 0 H [.ref p, .int (nI i), .int (nI j), .int (nI v)] (fun H' r => r = none ∧ ex_ch H H' [p + 1] ∧ pi_is H' p w h (va_up g (j * w + i) v) m) := by
  obtain ⟨hok, gs, ms, hp0, hct⟩ := id hp
  obtain ⟨hz, hgm⟩ := id hok
  obtain ⟨hp1, hp2, hp3⟩ := id hp0
  have h80 := pi_80 hz
  obtain ⟨hz1, hz2, hz3, hz4⟩ := id hz
  have hb := pi_lt hi hj
  refine ex_meth [(0, .ref p), (1, .int (nI i)), (2, .int (nI j)), (3, .int (nI v))] rfl rfl rfl (fun b => Nat.le_of_ble_eq_true rfl) ?_
  refine ew_aload_n (M := mX4_setGrey) dX4_setGrey_0 rfl (Or.inr (Or.inl ⟨_, rfl⟩)) ?_
  refine ew_iload_n (M := mX4_setGrey) dX4_setGrey_1 rfl ?_
  refine ew_iload_n (M := mX4_setGrey) dX4_setGrey_2 rfl ?_
  refine ew_callV (M := mX4_setGrey) dX4_setGrey_3 vX4_26 (by repeat (first | with_reducible assumption | refine ex_eq ?_ | refine ex_ne ?_ (by omega) | exact ex_lt (by with_reducible assumption) | rw [List.length_set] | assumption)) rfl (sp_has_y hp hi hj) rfl (Nat.le_of_ble_eq_true rfl) ⟨Nat.le_refl _, Nat.le_refl _⟩ rfl (fun H3 r3 q3 => ?_)
  obtain ⟨rfl, rfl⟩ := q3
  refine ew_if_eq (M := mX4_setGrey) (tgt := 23) dX4_setGrey_6 rfl (fun h => absurd h (by decide)) (fun _ => ?_)
  refine ew_aload_n (M := mX4_setGrey) dX4_setGrey_9 rfl (Or.inr (Or.inl ⟨_, rfl⟩)) ?_
  refine ew_get (M := mX4_setGrey) dX4_setGrey_10 fX4_18 (by repeat (first | with_reducible assumption | refine ex_eq ?_ | refine ex_ne ?_ (by omega) | exact ex_lt (by with_reducible assumption) | rw [List.length_set] | assumption)) (by rfl) ?_
  refine ew_iload_n (M := mX4_setGrey) dX4_setGrey_13 rfl ?_
  refine ew_aload_n (M := mX4_setGrey) dX4_setGrey_14 rfl (Or.inr (Or.inl ⟨_, rfl⟩)) ?_
  refine ew_get (M := mX4_setGrey) dX4_setGrey_15 fX4_9 (by repeat (first | with_reducible assumption | refine ex_eq ?_ | refine ex_ne ?_ (by omega) | exact ex_lt (by with_reducible assumption) | rw [List.length_set] | assumption)) (by rfl) ?_
  refine ew_imul (M := mX4_setGrey) dX4_setGrey_18 ?_
  refine ew_iload_n (M := mX4_setGrey) dX4_setGrey_19 rfl ?_
  refine ew_iadd (M := mX4_setGrey) dX4_setGrey_20 ?_
  refine ew_iload_n (M := mX4_setGrey) dX4_setGrey_21 rfl ?_
  refine ew_iast (M := mX4_setGrey) (j * w + i) dX4_setGrey_22 (by repeat (first | with_reducible assumption | refine ex_eq ?_ | refine ex_ne ?_ (by omega) | exact ex_lt (by with_reducible assumption) | rw [List.length_set] | assumption)) ⟨by rw [pk_mul, nI_add], by omega, by decide⟩ ?_
  refine ew_vret (M := mX4_setGrey) dX4_setGrey_23 rfl (Nat.le_refl _) (Nat.le_refl _) ?_
  refine ⟨rfl, ex_ch.rf.set (by simp), ⟨hz, fun k hk => ?_⟩, upd gs (j * w + i) (nI v), ms, ⟨ex_ne hp1 (by omega), ex_eq (ex_lt hp2), ex_ne hp3 (by omega)⟩, fun k hk => ?_⟩
  · by_cases e : k = j * w + i
    · subst e; simp only [va_up, if_true]; exact ⟨hv, (hgm _ hb).2⟩
    · simp only [va_up, if_neg e]; exact hgm k hk
  · by_cases e : k = j * w + i
    · subst e; simp only [va_up, upd, if_true]; exact ⟨trivial, (hct _ hb).2⟩
    · simp only [va_up, upd, if_neg e]; exact hct k hk
theorem sp_setMasked {d : Nat} {H : ex_H} {p w h : Nat} {g m : Nat → Nat} (hp : pi_is H p w h g m) {i j v : Nat} (hi : i < w) (hj : j < h) (hv : v < 2) : ex_Met mX4_setMasked (d + 1) 0 0 H [.ref p, .int (nI i), .int (nI j), .int (nI v)] (fun H' r => r = none ∧ ex_ch H H' [p + 2] ∧ pi_is H' p w h g (va_up m (j * w + i) v)) := by
  obtain ⟨hok, gs, ms, hp0, hct⟩ := id hp
  obtain ⟨hz, hgm⟩ := id hok
  obtain ⟨hp1, hp2, hp3⟩ := id hp0
  have h80 := pi_80 hz
  obtain ⟨hz1, hz2, hz3, hz4⟩ := id hz
  have hb := pi_lt hi hj
  have hv1 : nI v &&& 1 = nI v := by
    rcases (show v = 0 ∨ v = 1 by omega) with rfl | rfl <;> decide
  refine ex_meth [(0, .ref p), (1, .int (nI i)), (2, .int (nI j)), (3, .int (nI v))] rfl rfl rfl (fun b => Nat.le_of_ble_eq_true rfl) ?_
  refine ew_aload_n (M := mX4_setMasked) dX4_setMasked_0 rfl (Or.inr (Or.inl ⟨_, rfl⟩)) ?_
  refine ew_iload_n (M := mX4_setMasked) dX4_setMasked_1 rfl ?_
  refine ew_iload_n (M := mX4_setMasked) dX4_setMasked_2 rfl ?_
  refine ew_callV (M := mX4_setMasked) dX4_setMasked_3 vX4_26 (by repeat (first | with_reducible assumption | refine ex_eq ?_ | refine ex_ne ?_ (by omega) | exact ex_lt (by with_reducible assumption) | rw [List.length_set] | assumption)) rfl (sp_has_y hp hi hj) rfl (Nat.le_of_ble_eq_true rfl) ⟨Nat.le_refl _, Nat.le_refl _⟩ rfl (fun H3 r3 q3 => ?_)
  obtain ⟨rfl, rfl⟩ := q3
  refine ew_if_eq (M := mX4_setMasked) (tgt := 23) dX4_setMasked_6 rfl (fun h => absurd h (by decide)) (fun _ => ?_)
  refine ew_aload_n (M := mX4_setMasked) dX4_setMasked_9 rfl (Or.inr (Or.inl ⟨_, rfl⟩)) ?_
  refine ew_get (M := mX4_setMasked) dX4_setMasked_10 fX4_22 (by repeat (first | with_reducible assumption | refine ex_eq ?_ | refine ex_ne ?_ (by omega) | exact ex_lt (by with_reducible assumption) | rw [List.length_set] | assumption)) (by rfl) ?_
  refine ew_iload_n (M := mX4_setMasked) dX4_setMasked_13 rfl ?_
  refine ew_aload_n (M := mX4_setMasked) dX4_setMasked_14 rfl (Or.inr (Or.inl ⟨_, rfl⟩)) ?_
  refine ew_get (M := mX4_setMasked) dX4_setMasked_15 fX4_9 (by repeat (first | with_reducible assumption | refine ex_eq ?_ | refine ex_ne ?_ (by omega) | exact ex_lt (by with_reducible assumption) | rw [List.length_set] | assumption)) (by rfl) ?_
  refine ew_imul (M := mX4_setMasked) dX4_setMasked_18 ?_
  refine ew_iload_n (M := mX4_setMasked) dX4_setMasked_19 rfl ?_
  refine ew_iadd (M := mX4_setMasked) dX4_setMasked_20 ?_
  refine ew_iload_n (M := mX4_setMasked) dX4_setMasked_21 rfl ?_
  refine ew_zast (M := mX4_setMasked) (j * w + i) dX4_setMasked_22 (by repeat (first | with_reducible assumption | refine ex_eq ?_ | refine ex_ne ?_ (by omega) | exact ex_lt (by with_reducible assumption) | rw [List.length_set] | assumption)) ⟨by rw [pk_mul, nI_add], by omega, by decide⟩ (by assumption) ?_
  refine ew_vret (M := mX4_setMasked) dX4_setMasked_23 rfl (Nat.le_refl _) (Nat.le_refl _) ?_
  refine ⟨rfl, ex_ch.rf.set (by simp), ⟨hz, fun k hk => ?_⟩, gs, upd ms (j * w + i) (nI v), ⟨ex_ne hp1 (by omega), ex_ne hp2 (by omega), ex_eq (ex_lt hp3)⟩, fun k hk => ?_⟩
  · by_cases e : k = j * w + i
    · subst e; simp only [va_up, if_true]; exact ⟨(hgm _ hb).1, hv⟩
    · simp only [va_up, if_neg e]; exact hgm k hk
  · by_cases e : k = j * w + i
    · subst e; simp only [va_up, upd, if_true]; exact ⟨(hct _ hb).1, trivial⟩
    · simp only [va_up, upd, if_neg e]; exact hct k hk
def pm_masked (w h : Nat) (m : Nat → Nat) : Nat := fl (fun k n => if m k = 0 then n else n + 1) (w * h) 0
theorem sp_maskedDots {d : Nat} {H : ex_H} {p w h : Nat} {g m : Nat → Nat} (hp : pi_is H p w h g m) : ex_Met mX4_maskedDots (d + 1) 0 0 H [.ref p] (ex_r H (.int (nI (pm_masked w h m)))) := by
  obtain ⟨hok, gs, ms, hp0, hct⟩ := id hp
  obtain ⟨hz, hgm⟩ := id hok
  obtain ⟨hp1, hp2, hp3⟩ := id hp0
  have h80 := pi_80 hz
  obtain ⟨hz1, hz2, hz3, hz4⟩ := id hz
  refine ex_meth [(0, .ref p)] rfl rfl rfl (fun b => Nat.le_of_ble_eq_true rfl) ?_
  refine ew_iconst (M := mX4_maskedDots) dX4_maskedDots_0 (v := nI 0) (by decide) ?_
  refine ew_istore_n (M := mX4_maskedDots) dX4_maskedDots_1 (by decide) rfl ?_
  refine ew_iconst (M := mX4_maskedDots) dX4_maskedDots_2 (v := nI 0) (by decide) ?_
  refine ew_istore_n (M := mX4_maskedDots) dX4_maskedDots_3 (by decide) rfl ?_
  refine ew_ls [(0, .ref p), (1, .int (nI 0)), (2, .int (nI 0))] ⟨rfl, rfl, rfl, trivial⟩ ?_
  refine fl_down (F := fun k n => if m k = 0 then n else n + 1) (P := fun i n => ex_W mX4_maskedDots (d + 1) 0 0 _ H 4 [(0, .ref p), (1, .int (nI n)), (2, .int (nI i))] [] 0 0) (w * h) 0 (fun i n hi _ k => ?_) ?_
  · refine ew_iload_n (M := mX4_maskedDots) dX4_maskedDots_4 rfl ?_
    refine ew_aload_n (M := mX4_maskedDots) dX4_maskedDots_5 rfl (Or.inr (Or.inl ⟨_, rfl⟩)) ?_
    refine ew_callV (M := mX4_maskedDots) dX4_maskedDots_6 vX4_38 (by repeat (first | with_reducible assumption | refine ex_eq ?_ | refine ex_ne ?_ (by omega) | exact ex_lt (by with_reducible assumption) | rw [List.length_set] | assumption)) rfl (sp_dots hp) rfl (Nat.le_of_ble_eq_true rfl) ⟨Nat.le_refl _, Nat.le_refl _⟩ rfl (fun H6 r6 q6 => ?_)
    obtain ⟨rfl, rfl⟩ := q6
    refine ew_icmp_ge (M := mX4_maskedDots) (tgt := 30) dX4_maskedDots_9 rfl (fun h => absurd h (nI_ge hi (by omega))) (fun _ => ?_)
    refine ew_aload_n (M := mX4_maskedDots) dX4_maskedDots_12 rfl (Or.inr (Or.inl ⟨_, rfl⟩)) ?_
    refine ew_get (M := mX4_maskedDots) dX4_maskedDots_13 fX4_22 (by repeat (first | with_reducible assumption | refine ex_eq ?_ | refine ex_ne ?_ (by omega) | exact ex_lt (by with_reducible assumption) | rw [List.length_set] | assumption)) (by rfl) ?_
    refine ew_iload_n (M := mX4_maskedDots) dX4_maskedDots_16 rfl ?_
    refine ew_zald (M := mX4_maskedDots) i dX4_maskedDots_17 (by repeat (first | with_reducible assumption | refine ex_eq ?_ | refine ex_ne ?_ (by omega) | exact ex_lt (by with_reducible assumption) | rw [List.length_set] | assumption)) ⟨rfl, by omega, by decide⟩ ?_
    refine ew_if_eq (M := mX4_maskedDots) (tgt := 24) dX4_maskedDots_18 rfl (fun c18 => ?_) (fun c18 => ?_)
    · rw [(hct i hi).2, nI_z (by have := (hgm i hi).2; omega)] at c18
      refine ew_iinc (M := mX4_maskedDots) dX4_maskedDots_24 rfl (ex_inc i) (by decide) rfl ?_
      refine ew_goto (M := mX4_maskedDots) (tgt := 4) dX4_maskedDots_27 rfl ?_
      simp only [c18, ↓reduceIte] at k
      refine ew_ls _ ?_ k
      exact ⟨rfl, rfl, rfl, trivial⟩
    · rw [(hct i hi).2, nI_z (by have := (hgm i hi).2; omega)] at c18
      refine ew_iinc (M := mX4_maskedDots) dX4_maskedDots_21 rfl (ex_inc n) (by decide) rfl ?_
      refine ew_iinc (M := mX4_maskedDots) dX4_maskedDots_24 rfl (ex_inc i) (by decide) rfl ?_
      refine ew_goto (M := mX4_maskedDots) (tgt := 4) dX4_maskedDots_27 rfl ?_
      simp only [c18, ↓reduceIte] at k
      refine ew_ls _ ?_ k
      exact ⟨rfl, rfl, rfl, trivial⟩
  · refine ew_iload_n (M := mX4_maskedDots) dX4_maskedDots_4 rfl ?_
    refine ew_aload_n (M := mX4_maskedDots) dX4_maskedDots_5 rfl (Or.inr (Or.inl ⟨_, rfl⟩)) ?_
    refine ew_callV (M := mX4_maskedDots) dX4_maskedDots_6 vX4_38 (by repeat (first | with_reducible assumption | refine ex_eq ?_ | refine ex_ne ?_ (by omega) | exact ex_lt (by with_reducible assumption) | rw [List.length_set] | assumption)) rfl (sp_dots hp) rfl (Nat.le_of_ble_eq_true rfl) ⟨Nat.le_refl _, Nat.le_refl _⟩ rfl (fun H6 r6 q6 => ?_)
    obtain ⟨rfl, rfl⟩ := q6
    refine ew_icmp_ge (M := mX4_maskedDots) (tgt := 30) dX4_maskedDots_9 rfl (fun _ => ?_) (fun h => absurd (nI_le (Nat.le_refl _) (by omega)) h)
    refine ew_iload_n (M := mX4_maskedDots) dX4_maskedDots_30 rfl ?_
    refine ew_iret (M := mX4_maskedDots) dX4_maskedDots_31 rfl (by first | rfl | decide) (Nat.le_refl _) (Nat.le_refl _) ?_
    exact ⟨rfl, rfl⟩
def pm_least (w h : Nat) (g m : Nat → Nat) : Int32 := fl (fun k (s : Int32) => if m k = 0 then (if s = -1 then nI (g k) else if nI (g k) < s then nI (g k) else s) else s) (w * h) (-1)
theorem sp_leastGrey {d : Nat} {H : ex_H} {p w h : Nat} {g m : Nat → Nat} (hp : pi_is H p w h g m) : ex_Met mX4_leastGrey (d + 1) 0 0 H [.ref p] (ex_r H (.int (pm_least w h g m))) := by
  obtain ⟨hok, gs, ms, hp0, hct⟩ := id hp
  obtain ⟨hz, hgm⟩ := id hok
  obtain ⟨hp1, hp2, hp3⟩ := id hp0
  have h80 := pi_80 hz
  obtain ⟨hz1, hz2, hz3, hz4⟩ := id hz
  refine ex_meth [(0, .ref p)] rfl rfl rfl (fun b => Nat.le_of_ble_eq_true rfl) ?_
  refine ew_iconst (M := mX4_leastGrey) dX4_leastGrey_0 (v := (-1)) (by decide) ?_
  refine ew_istore_n (M := mX4_leastGrey) dX4_leastGrey_1 (by decide) rfl ?_
  refine ew_iconst (M := mX4_leastGrey) dX4_leastGrey_2 (v := nI 0) (by decide) ?_
  refine ew_istore_n (M := mX4_leastGrey) dX4_leastGrey_3 (by decide) rfl ?_
  refine ew_ls [(0, .ref p), (1, .int (-1)), (2, .int (nI 0))] ⟨rfl, rfl, rfl, trivial⟩ ?_
  refine fl_down (F := fun k (s : Int32) => if m k = 0 then (if s = -1 then nI (g k) else if nI (g k) < s then nI (g k) else s) else s) (P := fun i s => ex_W mX4_leastGrey (d + 1) 0 0 _ H 4 [(0, .ref p), (1, .int s), (2, .int (nI i))] [] 0 0) (w * h) (-1) (fun i s hi _ k => ?_) ?_
  · refine ew_iload_n (M := mX4_leastGrey) dX4_leastGrey_4 rfl ?_
    refine ew_aload_n (M := mX4_leastGrey) dX4_leastGrey_5 rfl (Or.inr (Or.inl ⟨_, rfl⟩)) ?_
    refine ew_callV (M := mX4_leastGrey) dX4_leastGrey_6 vX4_38 (by repeat (first | with_reducible assumption | refine ex_eq ?_ | refine ex_ne ?_ (by omega) | exact ex_lt (by with_reducible assumption) | rw [List.length_set] | assumption)) rfl (sp_dots hp) rfl (Nat.le_of_ble_eq_true rfl) ⟨Nat.le_refl _, Nat.le_refl _⟩ rfl (fun H6 r6 q6 => ?_)
    obtain ⟨rfl, rfl⟩ := q6
    refine ew_icmp_ge (M := mX4_leastGrey) (tgt := 49) dX4_leastGrey_9 rfl (fun h => absurd h (nI_ge hi (by omega))) (fun _ => ?_)
    refine ew_aload_n (M := mX4_leastGrey) dX4_leastGrey_12 rfl (Or.inr (Or.inl ⟨_, rfl⟩)) ?_
    refine ew_get (M := mX4_leastGrey) dX4_leastGrey_13 fX4_22 (by repeat (first | with_reducible assumption | refine ex_eq ?_ | refine ex_ne ?_ (by omega) | exact ex_lt (by with_reducible assumption) | rw [List.length_set] | assumption)) (by rfl) ?_
    refine ew_iload_n (M := mX4_leastGrey) dX4_leastGrey_16 rfl ?_
    refine ew_zald (M := mX4_leastGrey) i dX4_leastGrey_17 (by repeat (first | with_reducible assumption | refine ex_eq ?_ | refine ex_ne ?_ (by omega) | exact ex_lt (by with_reducible assumption) | rw [List.length_set] | assumption)) ⟨rfl, by omega, by decide⟩ ?_
    refine ew_if_ne (M := mX4_leastGrey) (tgt := 43) dX4_leastGrey_18 rfl (fun c18 => ?_) (fun c18 => ?_)
    · rw [(hct i hi).2, nI_z (by have := (hgm i hi).2; omega)] at c18
      first | (rw [(hct i hi).1]) | skip
      refine ew_iinc (M := mX4_leastGrey) dX4_leastGrey_43 rfl (ex_inc i) (by decide) rfl ?_
      refine ew_goto (M := mX4_leastGrey) (tgt := 4) dX4_leastGrey_46 rfl ?_
      first | (have c33' : nI (g i) < s := Int32.not_le.mp c33) | (have c33' : ¬ nI (g i) < s := Int32.not_lt.mpr c33) | (have c33' := True.intro)
      simp only [c18, ↓reduceIte] at k
      try simp only [c23, ↓reduceIte] at k
      try simp only [c33', ↓reduceIte] at k
      refine ew_ls _ ?_ k
      exact ⟨rfl, rfl, rfl, trivial⟩
    · rw [(hct i hi).2, nI_z (by have := (hgm i hi).2; omega)] at c18
      refine ew_iload_n (M := mX4_leastGrey) dX4_leastGrey_21 rfl ?_
      refine ew_iconst (M := mX4_leastGrey) dX4_leastGrey_22 (v := (-1)) (by decide) ?_
      refine ew_icmp_eq (M := mX4_leastGrey) (tgt := 36) dX4_leastGrey_23 rfl (fun c23 => ?_) (fun c23 => ?_)
      · refine ew_aload_n (M := mX4_leastGrey) dX4_leastGrey_36 rfl (Or.inr (Or.inl ⟨_, rfl⟩)) ?_
        refine ew_get (M := mX4_leastGrey) dX4_leastGrey_37 fX4_18 (by repeat (first | with_reducible assumption | refine ex_eq ?_ | refine ex_ne ?_ (by omega) | exact ex_lt (by with_reducible assumption) | rw [List.length_set] | assumption)) (by rfl) ?_
        refine ew_iload_n (M := mX4_leastGrey) dX4_leastGrey_40 rfl ?_
        refine ew_iald (M := mX4_leastGrey) i dX4_leastGrey_41 (by repeat (first | with_reducible assumption | refine ex_eq ?_ | refine ex_ne ?_ (by omega) | exact ex_lt (by with_reducible assumption) | rw [List.length_set] | assumption)) ⟨rfl, by omega, by decide⟩ ?_
        refine ew_istore_n (M := mX4_leastGrey) dX4_leastGrey_42 (by decide) rfl ?_
        first | (rw [(hct i hi).1]) | skip
        refine ew_iinc (M := mX4_leastGrey) dX4_leastGrey_43 rfl (ex_inc i) (by decide) rfl ?_
        refine ew_goto (M := mX4_leastGrey) (tgt := 4) dX4_leastGrey_46 rfl ?_
        first | (have c33' : nI (g i) < s := Int32.not_le.mp c33) | (have c33' : ¬ nI (g i) < s := Int32.not_lt.mpr c33) | (have c33' := True.intro)
        simp only [c18, ↓reduceIte] at k
        try simp only [c23, ↓reduceIte] at k
        try simp only [c33', ↓reduceIte] at k
        refine ew_ls _ ?_ k
        exact ⟨rfl, rfl, rfl, trivial⟩
      · refine ew_aload_n (M := mX4_leastGrey) dX4_leastGrey_26 rfl (Or.inr (Or.inl ⟨_, rfl⟩)) ?_
        refine ew_get (M := mX4_leastGrey) dX4_leastGrey_27 fX4_18 (by repeat (first | with_reducible assumption | refine ex_eq ?_ | refine ex_ne ?_ (by omega) | exact ex_lt (by with_reducible assumption) | rw [List.length_set] | assumption)) (by rfl) ?_
        refine ew_iload_n (M := mX4_leastGrey) dX4_leastGrey_30 rfl ?_
        refine ew_iald (M := mX4_leastGrey) i dX4_leastGrey_31 (by repeat (first | with_reducible assumption | refine ex_eq ?_ | refine ex_ne ?_ (by omega) | exact ex_lt (by with_reducible assumption) | rw [List.length_set] | assumption)) ⟨rfl, by omega, by decide⟩ ?_
        refine ew_iload_n (M := mX4_leastGrey) dX4_leastGrey_32 rfl ?_
        refine ew_icmp_ge (M := mX4_leastGrey) (tgt := 43) dX4_leastGrey_33 rfl (fun c33 => ?_) (fun c33 => ?_)
        · rw [(hct i hi).1] at c33
          first | (rw [(hct i hi).1]) | skip
          refine ew_iinc (M := mX4_leastGrey) dX4_leastGrey_43 rfl (ex_inc i) (by decide) rfl ?_
          refine ew_goto (M := mX4_leastGrey) (tgt := 4) dX4_leastGrey_46 rfl ?_
          first | (have c33' : nI (g i) < s := Int32.not_le.mp c33) | (have c33' : ¬ nI (g i) < s := Int32.not_lt.mpr c33) | (have c33' := True.intro)
          simp only [c18, ↓reduceIte] at k
          try simp only [c23, ↓reduceIte] at k
          try simp only [c33', ↓reduceIte] at k
          refine ew_ls _ ?_ k
          exact ⟨rfl, rfl, rfl, trivial⟩
        · rw [(hct i hi).1] at c33
          refine ew_aload_n (M := mX4_leastGrey) dX4_leastGrey_36 rfl (Or.inr (Or.inl ⟨_, rfl⟩)) ?_
          refine ew_get (M := mX4_leastGrey) dX4_leastGrey_37 fX4_18 (by repeat (first | with_reducible assumption | refine ex_eq ?_ | refine ex_ne ?_ (by omega) | exact ex_lt (by with_reducible assumption) | rw [List.length_set] | assumption)) (by rfl) ?_
          refine ew_iload_n (M := mX4_leastGrey) dX4_leastGrey_40 rfl ?_
          refine ew_iald (M := mX4_leastGrey) i dX4_leastGrey_41 (by repeat (first | with_reducible assumption | refine ex_eq ?_ | refine ex_ne ?_ (by omega) | exact ex_lt (by with_reducible assumption) | rw [List.length_set] | assumption)) ⟨rfl, by omega, by decide⟩ ?_
          refine ew_istore_n (M := mX4_leastGrey) dX4_leastGrey_42 (by decide) rfl ?_
          first | (rw [(hct i hi).1]) | skip
          refine ew_iinc (M := mX4_leastGrey) dX4_leastGrey_43 rfl (ex_inc i) (by decide) rfl ?_
          refine ew_goto (M := mX4_leastGrey) (tgt := 4) dX4_leastGrey_46 rfl ?_
          first | (have c33' : nI (g i) < s := Int32.not_le.mp c33) | (have c33' : ¬ nI (g i) < s := Int32.not_lt.mpr c33) | (have c33' := True.intro)
          simp only [c18, ↓reduceIte] at k
          try simp only [c23, ↓reduceIte] at k
          try simp only [c33', ↓reduceIte] at k
          refine ew_ls _ ?_ k
          exact ⟨rfl, rfl, rfl, trivial⟩
  · refine ew_iload_n (M := mX4_leastGrey) dX4_leastGrey_4 rfl ?_
    refine ew_aload_n (M := mX4_leastGrey) dX4_leastGrey_5 rfl (Or.inr (Or.inl ⟨_, rfl⟩)) ?_
    refine ew_callV (M := mX4_leastGrey) dX4_leastGrey_6 vX4_38 (by repeat (first | with_reducible assumption | refine ex_eq ?_ | refine ex_ne ?_ (by omega) | exact ex_lt (by with_reducible assumption) | rw [List.length_set] | assumption)) rfl (sp_dots hp) rfl (Nat.le_of_ble_eq_true rfl) ⟨Nat.le_refl _, Nat.le_refl _⟩ rfl (fun H6 r6 q6 => ?_)
    obtain ⟨rfl, rfl⟩ := q6
    refine ew_icmp_ge (M := mX4_leastGrey) (tgt := 49) dX4_leastGrey_9 rfl (fun _ => ?_) (fun h => absurd (nI_le (Nat.le_refl _) (by omega)) h)
    refine ew_iload_n (M := mX4_leastGrey) dX4_leastGrey_49 rfl ?_
    refine ew_iret (M := mX4_leastGrey) dX4_leastGrey_50 rfl (by first | rfl | decide) (Nat.le_refl _) (Nat.le_refl _) ?_
    exact ⟨rfl, rfl⟩
def pm_most (w h : Nat) (g m : Nat → Nat) : Int32 := fl (fun k (s : Int32) => if m k = 0 then (if nI (g k) ≤ s then s else nI (g k)) else s) (w * h) (-1)
theorem sp_greatestGrey {d : Nat} {H : ex_H} {p w h : Nat} {g m : Nat → Nat} (hp : pi_is H p w h g m) : ex_Met mX4_greatestGrey (d + 1) 0 0 H [.ref p] (ex_r H (.int (pm_most w h g m))) := by
  obtain ⟨hok, gs, ms, hp0, hct⟩ := id hp
  obtain ⟨hz, hgm⟩ := id hok
  obtain ⟨hp1, hp2, hp3⟩ := id hp0
  have h80 := pi_80 hz
  obtain ⟨hz1, hz2, hz3, hz4⟩ := id hz
  refine ex_meth [(0, .ref p)] rfl rfl rfl (fun b => Nat.le_of_ble_eq_true rfl) ?_
  refine ew_iconst (M := mX4_greatestGrey) dX4_greatestGrey_0 (v := (-1)) (by decide) ?_
  refine ew_istore_n (M := mX4_greatestGrey) dX4_greatestGrey_1 (by decide) rfl ?_
  refine ew_iconst (M := mX4_greatestGrey) dX4_greatestGrey_2 (v := nI 0) (by decide) ?_
  refine ew_istore_n (M := mX4_greatestGrey) dX4_greatestGrey_3 (by decide) rfl ?_
  refine ew_ls [(0, .ref p), (1, .int (-1)), (2, .int (nI 0))] ⟨rfl, rfl, rfl, trivial⟩ ?_
  refine fl_down (F := fun k (s : Int32) => if m k = 0 then (if nI (g k) ≤ s then s else nI (g k)) else s) (P := fun i s => ex_W mX4_greatestGrey (d + 1) 0 0 _ H 4 [(0, .ref p), (1, .int s), (2, .int (nI i))] [] 0 0) (w * h) (-1) (fun i s hi _ k => ?_) ?_
  · refine ew_iload_n (M := mX4_greatestGrey) dX4_greatestGrey_4 rfl ?_
    refine ew_aload_n (M := mX4_greatestGrey) dX4_greatestGrey_5 rfl (Or.inr (Or.inl ⟨_, rfl⟩)) ?_
    refine ew_callV (M := mX4_greatestGrey) dX4_greatestGrey_6 vX4_38 (by repeat (first | with_reducible assumption | refine ex_eq ?_ | refine ex_ne ?_ (by omega) | exact ex_lt (by with_reducible assumption) | rw [List.length_set] | assumption)) rfl (sp_dots hp) rfl (Nat.le_of_ble_eq_true rfl) ⟨Nat.le_refl _, Nat.le_refl _⟩ rfl (fun H6 r6 q6 => ?_)
    obtain ⟨rfl, rfl⟩ := q6
    refine ew_icmp_ge (M := mX4_greatestGrey) (tgt := 44) dX4_greatestGrey_9 rfl (fun h => absurd h (nI_ge hi (by omega))) (fun _ => ?_)
    refine ew_aload_n (M := mX4_greatestGrey) dX4_greatestGrey_12 rfl (Or.inr (Or.inl ⟨_, rfl⟩)) ?_
    refine ew_get (M := mX4_greatestGrey) dX4_greatestGrey_13 fX4_22 (by repeat (first | with_reducible assumption | refine ex_eq ?_ | refine ex_ne ?_ (by omega) | exact ex_lt (by with_reducible assumption) | rw [List.length_set] | assumption)) (by rfl) ?_
    refine ew_iload_n (M := mX4_greatestGrey) dX4_greatestGrey_16 rfl ?_
    refine ew_zald (M := mX4_greatestGrey) i dX4_greatestGrey_17 (by repeat (first | with_reducible assumption | refine ex_eq ?_ | refine ex_ne ?_ (by omega) | exact ex_lt (by with_reducible assumption) | rw [List.length_set] | assumption)) ⟨rfl, by omega, by decide⟩ ?_
    refine ew_if_ne (M := mX4_greatestGrey) (tgt := 38) dX4_greatestGrey_18 rfl (fun c18 => ?_) (fun c18 => ?_)
    · rw [(hct i hi).2, nI_z (by have := (hgm i hi).2; omega)] at c18
      first | (rw [(hct i hi).1]) | skip
      refine ew_iinc (M := mX4_greatestGrey) dX4_greatestGrey_38 rfl (ex_inc i) (by decide) rfl ?_
      refine ew_goto (M := mX4_greatestGrey) (tgt := 4) dX4_greatestGrey_41 rfl ?_
      simp only [c18, ↓reduceIte] at k
      try simp only [c28, ↓reduceIte] at k
      refine ew_ls _ ?_ k
      exact ⟨rfl, rfl, rfl, trivial⟩
    · rw [(hct i hi).2, nI_z (by have := (hgm i hi).2; omega)] at c18
      refine ew_aload_n (M := mX4_greatestGrey) dX4_greatestGrey_21 rfl (Or.inr (Or.inl ⟨_, rfl⟩)) ?_
      refine ew_get (M := mX4_greatestGrey) dX4_greatestGrey_22 fX4_18 (by repeat (first | with_reducible assumption | refine ex_eq ?_ | refine ex_ne ?_ (by omega) | exact ex_lt (by with_reducible assumption) | rw [List.length_set] | assumption)) (by rfl) ?_
      refine ew_iload_n (M := mX4_greatestGrey) dX4_greatestGrey_25 rfl ?_
      refine ew_iald (M := mX4_greatestGrey) i dX4_greatestGrey_26 (by repeat (first | with_reducible assumption | refine ex_eq ?_ | refine ex_ne ?_ (by omega) | exact ex_lt (by with_reducible assumption) | rw [List.length_set] | assumption)) ⟨rfl, by omega, by decide⟩ ?_
      refine ew_iload_n (M := mX4_greatestGrey) dX4_greatestGrey_27 rfl ?_
      refine ew_icmp_le (M := mX4_greatestGrey) (tgt := 38) dX4_greatestGrey_28 rfl (fun c28 => ?_) (fun c28 => ?_)
      · rw [(hct i hi).1] at c28
        first | (rw [(hct i hi).1]) | skip
        refine ew_iinc (M := mX4_greatestGrey) dX4_greatestGrey_38 rfl (ex_inc i) (by decide) rfl ?_
        refine ew_goto (M := mX4_greatestGrey) (tgt := 4) dX4_greatestGrey_41 rfl ?_
        simp only [c18, ↓reduceIte] at k
        try simp only [c28, ↓reduceIte] at k
        refine ew_ls _ ?_ k
        exact ⟨rfl, rfl, rfl, trivial⟩
      · rw [(hct i hi).1] at c28
        refine ew_aload_n (M := mX4_greatestGrey) dX4_greatestGrey_31 rfl (Or.inr (Or.inl ⟨_, rfl⟩)) ?_
        refine ew_get (M := mX4_greatestGrey) dX4_greatestGrey_32 fX4_18 (by repeat (first | with_reducible assumption | refine ex_eq ?_ | refine ex_ne ?_ (by omega) | exact ex_lt (by with_reducible assumption) | rw [List.length_set] | assumption)) (by rfl) ?_
        refine ew_iload_n (M := mX4_greatestGrey) dX4_greatestGrey_35 rfl ?_
        refine ew_iald (M := mX4_greatestGrey) i dX4_greatestGrey_36 (by repeat (first | with_reducible assumption | refine ex_eq ?_ | refine ex_ne ?_ (by omega) | exact ex_lt (by with_reducible assumption) | rw [List.length_set] | assumption)) ⟨rfl, by omega, by decide⟩ ?_
        refine ew_istore_n (M := mX4_greatestGrey) dX4_greatestGrey_37 (by decide) rfl ?_
        first | (rw [(hct i hi).1]) | skip
        refine ew_iinc (M := mX4_greatestGrey) dX4_greatestGrey_38 rfl (ex_inc i) (by decide) rfl ?_
        refine ew_goto (M := mX4_greatestGrey) (tgt := 4) dX4_greatestGrey_41 rfl ?_
        simp only [c18, ↓reduceIte] at k
        try simp only [c28, ↓reduceIte] at k
        refine ew_ls _ ?_ k
        exact ⟨rfl, rfl, rfl, trivial⟩
  · refine ew_iload_n (M := mX4_greatestGrey) dX4_greatestGrey_4 rfl ?_
    refine ew_aload_n (M := mX4_greatestGrey) dX4_greatestGrey_5 rfl (Or.inr (Or.inl ⟨_, rfl⟩)) ?_
    refine ew_callV (M := mX4_greatestGrey) dX4_greatestGrey_6 vX4_38 (by repeat (first | with_reducible assumption | refine ex_eq ?_ | refine ex_ne ?_ (by omega) | exact ex_lt (by with_reducible assumption) | rw [List.length_set] | assumption)) rfl (sp_dots hp) rfl (Nat.le_of_ble_eq_true rfl) ⟨Nat.le_refl _, Nat.le_refl _⟩ rfl (fun H6 r6 q6 => ?_)
    obtain ⟨rfl, rfl⟩ := q6
    refine ew_icmp_ge (M := mX4_greatestGrey) (tgt := 44) dX4_greatestGrey_9 rfl (fun _ => ?_) (fun h => absurd (nI_le (Nat.le_refl _) (by omega)) h)
    refine ew_iload_n (M := mX4_greatestGrey) dX4_greatestGrey_44 rfl ?_
    refine ew_iret (M := mX4_greatestGrey) dX4_greatestGrey_45 rfl (by first | rfl | decide) (Nat.le_refl _) (Nat.le_refl _) ?_
    exact ⟨rfl, rfl⟩
def pm_sum (w h : Nat) (g m : Nat → Nat) : Int32 := fl (fun k (s : Int32) => if m k = 0 then s + nI (g k) else s) (w * h) (nI 0)
theorem sp_greysTogether {d : Nat} {H : ex_H} {p w h : Nat} {g m : Nat → Nat} (hp : pi_is H p w h g m) : ex_Met mX4_greysTogether (d + 1) 0 0 H [.ref p] (ex_r H (.int (pm_sum w h g m))) := by
  obtain ⟨hok, gs, ms, hp0, hct⟩ := id hp
  obtain ⟨hz, hgm⟩ := id hok
  obtain ⟨hp1, hp2, hp3⟩ := id hp0
  have h80 := pi_80 hz
  obtain ⟨hz1, hz2, hz3, hz4⟩ := id hz
  refine ex_meth [(0, .ref p)] rfl rfl rfl (fun b => Nat.le_of_ble_eq_true rfl) ?_
  refine ew_iconst (M := mX4_greysTogether) dX4_greysTogether_0 (v := nI 0) (by decide) ?_
  refine ew_istore_n (M := mX4_greysTogether) dX4_greysTogether_1 (by decide) rfl ?_
  refine ew_iconst (M := mX4_greysTogether) dX4_greysTogether_2 (v := nI 0) (by decide) ?_
  refine ew_istore_n (M := mX4_greysTogether) dX4_greysTogether_3 (by decide) rfl ?_
  refine ew_ls [(0, .ref p), (1, .int (nI 0)), (2, .int (nI 0))] ⟨rfl, rfl, rfl, trivial⟩ ?_
  refine fl_down (F := fun k (s : Int32) => if m k = 0 then s + nI (g k) else s) (P := fun i s => ex_W mX4_greysTogether (d + 1) 0 0 _ H 4 [(0, .ref p), (1, .int s), (2, .int (nI i))] [] 0 0) (w * h) (nI 0) (fun i s hi _ k => ?_) ?_
  · refine ew_iload_n (M := mX4_greysTogether) dX4_greysTogether_4 rfl ?_
    refine ew_aload_n (M := mX4_greysTogether) dX4_greysTogether_5 rfl (Or.inr (Or.inl ⟨_, rfl⟩)) ?_
    refine ew_callV (M := mX4_greysTogether) dX4_greysTogether_6 vX4_38 (by repeat (first | with_reducible assumption | refine ex_eq ?_ | refine ex_ne ?_ (by omega) | exact ex_lt (by with_reducible assumption) | rw [List.length_set] | assumption)) rfl (sp_dots hp) rfl (Nat.le_of_ble_eq_true rfl) ⟨Nat.le_refl _, Nat.le_refl _⟩ rfl (fun H6 r6 q6 => ?_)
    obtain ⟨rfl, rfl⟩ := q6
    refine ew_icmp_ge (M := mX4_greysTogether) (tgt := 36) dX4_greysTogether_9 rfl (fun h => absurd h (nI_ge hi (by omega))) (fun _ => ?_)
    refine ew_aload_n (M := mX4_greysTogether) dX4_greysTogether_12 rfl (Or.inr (Or.inl ⟨_, rfl⟩)) ?_
    refine ew_get (M := mX4_greysTogether) dX4_greysTogether_13 fX4_22 (by repeat (first | with_reducible assumption | refine ex_eq ?_ | refine ex_ne ?_ (by omega) | exact ex_lt (by with_reducible assumption) | rw [List.length_set] | assumption)) (by rfl) ?_
    refine ew_iload_n (M := mX4_greysTogether) dX4_greysTogether_16 rfl ?_
    refine ew_zald (M := mX4_greysTogether) i dX4_greysTogether_17 (by repeat (first | with_reducible assumption | refine ex_eq ?_ | refine ex_ne ?_ (by omega) | exact ex_lt (by with_reducible assumption) | rw [List.length_set] | assumption)) ⟨rfl, by omega, by decide⟩ ?_
    refine ew_if_ne (M := mX4_greysTogether) (tgt := 30) dX4_greysTogether_18 rfl (fun c18 => ?_) (fun c18 => ?_)
    · rw [(hct i hi).2, nI_z (by have := (hgm i hi).2; omega)] at c18
      first | (rw [(hct i hi).1]) | skip
      refine ew_iinc (M := mX4_greysTogether) dX4_greysTogether_30 rfl (ex_inc i) (by decide) rfl ?_
      refine ew_goto (M := mX4_greysTogether) (tgt := 4) dX4_greysTogether_33 rfl ?_
      simp only [c18, ↓reduceIte] at k
      refine ew_ls _ ?_ k
      exact ⟨rfl, rfl, rfl, trivial⟩
    · rw [(hct i hi).2, nI_z (by have := (hgm i hi).2; omega)] at c18
      refine ew_iload_n (M := mX4_greysTogether) dX4_greysTogether_21 rfl ?_
      refine ew_aload_n (M := mX4_greysTogether) dX4_greysTogether_22 rfl (Or.inr (Or.inl ⟨_, rfl⟩)) ?_
      refine ew_get (M := mX4_greysTogether) dX4_greysTogether_23 fX4_18 (by repeat (first | with_reducible assumption | refine ex_eq ?_ | refine ex_ne ?_ (by omega) | exact ex_lt (by with_reducible assumption) | rw [List.length_set] | assumption)) (by rfl) ?_
      refine ew_iload_n (M := mX4_greysTogether) dX4_greysTogether_26 rfl ?_
      refine ew_iald (M := mX4_greysTogether) i dX4_greysTogether_27 (by repeat (first | with_reducible assumption | refine ex_eq ?_ | refine ex_ne ?_ (by omega) | exact ex_lt (by with_reducible assumption) | rw [List.length_set] | assumption)) ⟨rfl, by omega, by decide⟩ ?_
      refine ew_iadd (M := mX4_greysTogether) dX4_greysTogether_28 ?_
      refine ew_istore_n (M := mX4_greysTogether) dX4_greysTogether_29 (by decide) rfl ?_
      first | (rw [(hct i hi).1]) | skip
      refine ew_iinc (M := mX4_greysTogether) dX4_greysTogether_30 rfl (ex_inc i) (by decide) rfl ?_
      refine ew_goto (M := mX4_greysTogether) (tgt := 4) dX4_greysTogether_33 rfl ?_
      simp only [c18, ↓reduceIte] at k
      refine ew_ls _ ?_ k
      exact ⟨rfl, rfl, rfl, trivial⟩
  · refine ew_iload_n (M := mX4_greysTogether) dX4_greysTogether_4 rfl ?_
    refine ew_aload_n (M := mX4_greysTogether) dX4_greysTogether_5 rfl (Or.inr (Or.inl ⟨_, rfl⟩)) ?_
    refine ew_callV (M := mX4_greysTogether) dX4_greysTogether_6 vX4_38 (by repeat (first | with_reducible assumption | refine ex_eq ?_ | refine ex_ne ?_ (by omega) | exact ex_lt (by with_reducible assumption) | rw [List.length_set] | assumption)) rfl (sp_dots hp) rfl (Nat.le_of_ble_eq_true rfl) ⟨Nat.le_refl _, Nat.le_refl _⟩ rfl (fun H6 r6 q6 => ?_)
    obtain ⟨rfl, rfl⟩ := q6
    refine ew_icmp_ge (M := mX4_greysTogether) (tgt := 36) dX4_greysTogether_9 rfl (fun _ => ?_) (fun h => absurd (nI_le (Nat.le_refl _) (by omega)) h)
    refine ew_iload_n (M := mX4_greysTogether) dX4_greysTogether_36 rfl ?_
    refine ew_iret (M := mX4_greysTogether) dX4_greysTogether_37 rfl (by first | rfl | decide) (Nat.le_refl _) (Nat.le_refl _) ?_
    exact ⟨rfl, rfl⟩
