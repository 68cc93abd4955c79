/-- the history's cells: 23, 24, and sixteen pictures from 25 on -/
def hiL : List Nat := List.range' 23 50
theorem hiL_mem (k : Nat) : k ∈ hiL ↔ 23 ≤ k ∧ k < 73 := by
  unfold hiL
  rw [List.mem_range']
  constructor
  · rintro ⟨i, h1, h2⟩; omega
  · intro h; exact ⟨k - 23, by omega, by omega⟩
def hi_is (H : ex_H) (cnt : Nat) (hs : Nat → PT) : Prop := cnt ≤ 16 ∧ (∀ i, i < 16 → pi_any H (25 + 3 * i)) ∧ (∃ f, H[24]? = some (rr RX4 16 f) ∧ ∀ i, i < 16 → f i = some (25 + 3 * i)) ∧ ∃ old, old < 16 ∧ H[23]? = some (ob 3 [.int (nI cnt), .int (nI old), .ref 24]) ∧ ∀ i, i < cnt → pis H (25 + 3 * ((old + i) % 16)) (hs i)
theorem hi_is.ch {H H' : ex_H} {L : List Nat} {cnt : Nat} {hs : Nat → PT} (hc : ex_ch H H' L) (h : hi_is H cnt hs) (hL : ∀ k ∈ L, k < 23 ∨ 72 < k) : hi_is H' cnt hs := by
  have hn : ∀ k, 23 ≤ k → k < 73 → k ∉ L := fun k h1 h2 e => by have := hL k e; omega
  obtain ⟨h1, h2, ⟨f, h3, h4⟩, old, h5, h6, h7⟩ := h
  refine ⟨h1, fun i hi => (h2 i hi).ch hc (hn _ (by omega) (by omega)) (hn _ (by omega) (by omega)) (hn _ (by omega) (by omega)), ⟨f, hc.at h3 (hn _ (by omega) (by omega)), h4⟩, old, h5, hc.at h6 (hn _ (by omega) (by omega)), fun i hi => ?_⟩
  have hm : (old + i) % 16 < 16 := Nat.mod_lt _ (by decide)
  exact (h7 i hi).ch hc (hn _ (by omega) (by omega)) (hn _ (by omega) (by omega)) (hn _ (by omega) (by omega))
def hpush (cnt : Nat) (hs : Nat → PT) (P : PT) : Nat → PT := fun i => if cnt < 16 then (if i = cnt then P else hs i) else (if i = 15 then P else hs (i + 1))
def hcnt (cnt : Nat) : Nat := if cnt < 16 then cnt + 1 else 16
theorem sp_remember {d : Nat} {H : ex_H} {cnt p : Nat} {hs : Nat → PT} {P : PT} (hh : hi_is H cnt hs) (hp : pis H p P) (hp0 : p + 2 < 23 ∨ 72 < p) : ex_Met mX3_remember (d + 3) 0 0 H [.ref 23, .ref p] (fun H' r => r = none ∧ ex_ch H H' hiL ∧ hi_is H' (hcnt cnt) (hpush cnt hs P)) := by
  obtain ⟨h1, h2, ⟨f, h3, h4⟩, old, h5, h6, h7⟩ := id hh
  have hm : (old + cnt) % 16 < 16 := Nat.mod_lt _ (by decide)
  obtain ⟨w0, h0, gs, ms, ha0⟩ := h2 _ hm
  obtain ⟨ha1, ha2, ha3⟩ := id ha0
  have hf := h4 _ hm
  have hin : ∀ k ∈ [25 + 3 * ((old + cnt) % 16), 25 + 3 * ((old + cnt) % 16) + 1, 25 + 3 * ((old + cnt) % 16) + 2], 25 ≤ k ∧ k < 73 := fun k hk => by simp at hk; omega
  refine ex_meth [(0, .ref 23), (1, .ref p)] rfl rfl rfl (fun b => Nat.le_of_ble_eq_true rfl) ?_
  refine ew_aload_n (M := mX3_remember) dX3_remember_0 rfl (Or.inr (Or.inl ⟨_, rfl⟩)) ?_
  refine ew_get (M := mX3_remember) dX3_remember_1 fX3_18 (by repeat (first | with_reducible assumption | refine ex_eq ?_ | refine ex_ne ?_ (by omega) | exact ex_lt (by with_reducible assumption) | rw [List.length_set] | assumption)) (by rfl) ?_
  refine ew_aload_n (M := mX3_remember) dX3_remember_4 rfl (Or.inr (Or.inl ⟨_, rfl⟩)) ?_
  refine ew_get (M := mX3_remember) dX3_remember_5 fX3_13 (by repeat (first | with_reducible assumption | refine ex_eq ?_ | refine ex_ne ?_ (by omega) | exact ex_lt (by with_reducible assumption) | rw [List.length_set] | assumption)) (by rfl) ?_
  refine ew_aload_n (M := mX3_remember) dX3_remember_8 rfl (Or.inr (Or.inl ⟨_, rfl⟩)) ?_
  refine ew_get (M := mX3_remember) dX3_remember_9 fX3_7 (by repeat (first | with_reducible assumption | refine ex_eq ?_ | refine ex_ne ?_ (by omega) | exact ex_lt (by with_reducible assumption) | rw [List.length_set] | assumption)) (by rfl) ?_
  refine ew_iadd (M := mX3_remember) dX3_remember_12 ?_
  rw [nI_add]
  refine ew_bipush (M := mX3_remember) dX3_remember_13 (v := nI 16) (by decide) ?_
  refine ew_irem (M := mX3_remember) dX3_remember_15 (by decide) ?_
  rw [pk_rem (by omega) (by decide) (by decide)]
  refine ew_aald (t0 := 3) (M := mX3_remember) ((old + cnt) % 16) dX3_remember_16 (by repeat (first | with_reducible assumption | refine ex_eq ?_ | refine ex_ne ?_ (by omega) | exact ex_lt (by with_reducible assumption) | rw [List.length_set] | assumption)) (fun _ => rfl) ⟨rfl, hm, by decide⟩ ?_
  rw [hf]
  refine ew_aload_n (M := mX3_remember) dX3_remember_17 rfl (Or.inr (Or.inl ⟨_, rfl⟩)) ?_
  refine ew_callV (M := mX3_remember) dX3_remember_18 vX3_23 (by repeat (first | with_reducible assumption | refine ex_eq ?_ | refine ex_ne ?_ (by omega) | exact ex_lt (by with_reducible assumption) | rw [List.length_set] | assumption)) rfl (sp_become ha0 hp (by omega)) rfl (Nat.le_of_ble_eq_true rfl) ⟨Nat.le_refl _, Nat.le_refl _⟩ rfl (fun H18 r18 q18 => ?_)
  obtain ⟨rfl, hc1, hp1⟩ := q18
  have hany : ∀ i, i < 16 → pi_any H18 (25 + 3 * i) := fun i hi => by
    by_cases e : i = (old + cnt) % 16
    · subst e; exact pis.any hp1
    · exact (h2 i hi).ch hc1 (by simp <;> omega) (by simp <;> omega) (by simp <;> omega)
  have h31 := hc1.at h3 (by simp <;> omega)
  have h61 := hc1.at h6 (by simp <;> omega)
  have hc2 : ex_ch H H18 hiL := hc1.sub (fun k hk => Or.inl (by rw [hiL_mem]; have := hin k hk; omega))
  by_cases hcn : cnt < 16
  · refine ew_aload_n (M := mX3_remember) dX3_remember_21 rfl (Or.inr (Or.inl ⟨_, rfl⟩)) ?_
    refine ew_get (M := mX3_remember) dX3_remember_22 fX3_7 (by repeat (first | with_reducible assumption | refine ex_eq ?_ | refine ex_ne ?_ (by omega) | exact ex_lt (by with_reducible assumption) | rw [List.length_set] | assumption)) (by rfl) ?_
    refine ew_bipush (M := mX3_remember) dX3_remember_25 (v := nI 16) (by decide) ?_
    refine ew_icmp_ge (M := mX3_remember) (tgt := 43) dX3_remember_27 rfl (fun h => absurd h (nI_ge hcn (by decide))) (fun _ => ?_)
    refine ew_aload_n (M := mX3_remember) dX3_remember_30 rfl (Or.inr (Or.inl ⟨_, rfl⟩)) ?_
    refine ew_dup (M := mX3_remember) dX3_remember_31 rfl ?_
    refine ew_get (M := mX3_remember) dX3_remember_32 fX3_7 (by repeat (first | with_reducible assumption | refine ex_eq ?_ | refine ex_ne ?_ (by omega) | exact ex_lt (by with_reducible assumption) | rw [List.length_set] | assumption)) (by rfl) ?_
    refine ew_iconst (M := mX3_remember) dX3_remember_35 (v := nI 1) (by decide) ?_
    refine ew_iadd (M := mX3_remember) dX3_remember_36 ?_
    rw [nI_add]
    refine ew_put (M := mX3_remember) dX3_remember_37 fX3_7 (by repeat (first | with_reducible assumption | refine ex_eq ?_ | refine ex_ne ?_ (by omega) | exact ex_lt (by with_reducible assumption) | rw [List.length_set] | assumption)) (by exact Nat.le_of_ble_eq_true rfl) ⟨rfl, rfl, fun _ h => by cases h⟩ ?_
    refine ew_goto (M := mX3_remember) (tgt := 56) dX3_remember_40 rfl ?_
    refine ew_vret (M := mX3_remember) dX3_remember_56 rfl (Nat.le_refl _) (Nat.le_refl _) ?_
    have hc3 : ex_ch H18 (H18.set 23 (ob 3 [.int (nI (cnt + 1)), .int (nI old), .ref 24])) [23] := ex_ch.rf.set (by simp <;> omega)
    have ec : hcnt cnt = cnt + 1 := if_pos hcn
    rw [ec]
    refine ⟨rfl, hc2.set (by rw [hiL_mem]; omega), by omega, fun i hi => (hany i hi).ch hc3 (by simp <;> omega) (by simp <;> omega) (by simp <;> omega), ⟨f, hc3.at h31 (by simp <;> omega), h4⟩, old, h5, ex_eq (ex_lt h61), fun i hi => ?_⟩
    have hmi : (old + i) % 16 < 16 := Nat.mod_lt _ (by decide)
    by_cases e : i = cnt
    · subst e
      have ep : hpush i hs P i = P := by unfold hpush; rw [if_pos hcn, if_pos rfl]
      rw [ep]
      exact pis.ch hc3 hp1 (by simp <;> omega) (by simp <;> omega) (by simp <;> omega)
    · have ep : hpush cnt hs P i = hs i := by unfold hpush; rw [if_pos hcn, if_neg e]
      rw [ep]
      have hne : (old + i) % 16 ≠ (old + cnt) % 16 := by omega
      exact ((h7 i (by omega)).ch hc1 (by simp <;> omega) (by simp <;> omega) (by simp <;> omega)).ch hc3 (by simp <;> omega) (by simp <;> omega) (by simp <;> omega)
  · obtain rfl : cnt = 16 := by omega
    refine ew_aload_n (M := mX3_remember) dX3_remember_21 rfl (Or.inr (Or.inl ⟨_, rfl⟩)) ?_
    refine ew_get (M := mX3_remember) dX3_remember_22 fX3_7 (by repeat (first | with_reducible assumption | refine ex_eq ?_ | refine ex_ne ?_ (by omega) | exact ex_lt (by with_reducible assumption) | rw [List.length_set] | assumption)) (by rfl) ?_
    refine ew_bipush (M := mX3_remember) dX3_remember_25 (v := nI 16) (by decide) ?_
    refine ew_icmp_ge (M := mX3_remember) (tgt := 43) dX3_remember_27 rfl (fun _ => ?_) (fun h => absurd (nI_le (Nat.le_refl _) (by decide)) h)
    refine ew_aload_n (M := mX3_remember) dX3_remember_43 rfl (Or.inr (Or.inl ⟨_, rfl⟩)) ?_
    refine ew_aload_n (M := mX3_remember) dX3_remember_44 rfl (Or.inr (Or.inl ⟨_, rfl⟩)) ?_
    refine ew_get (M := mX3_remember) dX3_remember_45 fX3_13 (by repeat (first | with_reducible assumption | refine ex_eq ?_ | refine ex_ne ?_ (by omega) | exact ex_lt (by with_reducible assumption) | rw [List.length_set] | assumption)) (by rfl) ?_
    refine ew_iconst (M := mX3_remember) dX3_remember_48 (v := nI 1) (by decide) ?_
    refine ew_iadd (M := mX3_remember) dX3_remember_49 ?_
    rw [nI_add]
    refine ew_bipush (M := mX3_remember) dX3_remember_50 (v := nI 16) (by decide) ?_
    refine ew_irem (M := mX3_remember) dX3_remember_52 (by decide) ?_
    rw [pk_rem (by omega) (by decide) (by decide)]
    refine ew_put (M := mX3_remember) dX3_remember_53 fX3_13 (by repeat (first | with_reducible assumption | refine ex_eq ?_ | refine ex_ne ?_ (by omega) | exact ex_lt (by with_reducible assumption) | rw [List.length_set] | assumption)) (by exact Nat.le_of_ble_eq_true rfl) ⟨rfl, rfl, fun _ h => by cases h⟩ ?_
    refine ew_vret (M := mX3_remember) dX3_remember_56 rfl (Nat.le_refl _) (Nat.le_refl _) ?_
    have hc3 : ex_ch H18 (H18.set 23 (ob 3 [.int (nI 16), .int (nI ((old + 1) % 16)), .ref 24])) [23] := ex_ch.rf.set (by simp <;> omega)
    have ec : hcnt 16 = 16 := if_neg hcn
    rw [ec]
    refine ⟨rfl, hc2.set (by rw [hiL_mem]; omega), by omega, fun i hi => (hany i hi).ch hc3 (by simp <;> omega) (by simp <;> omega) (by simp <;> omega), ⟨f, hc3.at h31 (by simp <;> omega), h4⟩, (old + 1) % 16, Nat.mod_lt _ (by decide), ex_eq (ex_lt h61), fun i hi => ?_⟩
    have hmi : (old + (i + 1)) % 16 < 16 := Nat.mod_lt _ (by decide)
    have em : ((old + 1) % 16 + i) % 16 = (old + (i + 1)) % 16 := by omega
    rw [em]
    by_cases e : i = 15
    · subst e
      have ep : hpush 16 hs P 15 = P := by unfold hpush; rw [if_neg hcn, if_pos rfl]
      rw [ep]
      exact pis.ch hc3 hp1 (by simp <;> omega) (by simp <;> omega) (by simp <;> omega)
    · have ep : hpush 16 hs P i = hs (i + 1) := by unfold hpush; rw [if_neg hcn, if_neg e]
      rw [ep]
      have hne : (old + (i + 1)) % 16 ≠ (old + 16) % 16 := by omega
      exact ((h7 (i + 1) (by omega)).ch hc1 (by simp <;> omega) (by simp <;> omega) (by simp <;> omega)).ch hc3 (by simp <;> omega) (by simp <;> omega) (by simp <;> omega)
theorem sp_takeBack {d : Nat} {H : ex_H} {cnt p n : Nat} {hs : Nat → PT} (hh : hi_is H cnt hs) (hp : pi_any H p) (hp0 : p + 2 < 23 ∨ 72 < p) (hn : 1 ≤ n) (hn2 : n ≤ cnt) : ex_Met mX3_takeBack (d + 3) 0 0 H [.ref 23, .int (nI n), .ref p] (fun H' r => r = none ∧ ex_ch H H' [23, p, p + 1, p + 2] ∧ hi_is H' (cnt - n) hs ∧ pis H' p (hs (cnt - n))) := by
  obtain ⟨h1, h2, ⟨f, h3, h4⟩, old, h5, h6, h7⟩ := id hh
  have hm : (old + (cnt - n)) % 16 < 16 := Nat.mod_lt _ (by decide)
  obtain ⟨w0, h0, gs, ms, ha0⟩ := hp
  obtain ⟨ha1, ha2, ha3⟩ := id ha0
  have hf := h4 _ hm
  have h7n := h7 (cnt - n) (by omega)
  refine ex_meth [(0, .ref 23), (1, .int (nI n)), (2, .ref p)] rfl rfl rfl (fun b => Nat.le_of_ble_eq_true rfl) ?_
  refine ew_iload_n (M := mX3_takeBack) dX3_takeBack_0 rfl ?_
  refine ew_iconst (M := mX3_takeBack) dX3_takeBack_1 (v := nI 1) (by decide) ?_
  refine ew_aload_n (M := mX3_takeBack) dX3_takeBack_2 rfl (Or.inr (Or.inl ⟨_, rfl⟩)) ?_
  refine ew_get (M := mX3_takeBack) dX3_takeBack_3 fX3_7 (by repeat (first | with_reducible assumption | refine ex_eq ?_ | refine ex_ne ?_ (by omega) | exact ex_lt (by with_reducible assumption) | rw [List.length_set] | assumption)) (by rfl) ?_
  refine ew_callS (M := mX3_takeBack) dX3_takeBack_6 vX3_27 (sp_within_y (nI_le hn (by omega)) (nI_le hn2 (by omega))) rfl (Nat.le_of_ble_eq_true rfl) ⟨Nat.le_refl _, Nat.le_refl _⟩ rfl (fun H6 r6 q6 => ?_)
  obtain ⟨rfl, rfl⟩ := q6
  refine ew_if_eq (M := mX3_takeBack) (tgt := 43) dX3_takeBack_9 rfl (fun h => absurd h (by decide)) (fun _ => ?_)
  refine ew_aload_n (M := mX3_takeBack) dX3_takeBack_12 rfl (Or.inr (Or.inl ⟨_, rfl⟩)) ?_
  refine ew_dup (M := mX3_takeBack) dX3_takeBack_13 rfl ?_
  refine ew_get (M := mX3_takeBack) dX3_takeBack_14 fX3_7 (by repeat (first | with_reducible assumption | refine ex_eq ?_ | refine ex_ne ?_ (by omega) | exact ex_lt (by with_reducible assumption) | rw [List.length_set] | assumption)) (by rfl) ?_
  refine ew_iload_n (M := mX3_takeBack) dX3_takeBack_17 rfl ?_
  refine ew_isub (M := mX3_takeBack) dX3_takeBack_18 ?_
  rw [pk_sub hn2]
  refine ew_put (M := mX3_takeBack) dX3_takeBack_19 fX3_7 (by repeat (first | with_reducible assumption | refine ex_eq ?_ | refine ex_ne ?_ (by omega) | exact ex_lt (by with_reducible assumption) | rw [List.length_set] | assumption)) (by exact Nat.le_of_ble_eq_true rfl) ⟨rfl, rfl, fun _ h => by cases h⟩ ?_
  refine ew_aload_n (M := mX3_takeBack) dX3_takeBack_22 rfl (Or.inr (Or.inl ⟨_, rfl⟩)) ?_
  refine ew_aload_n (M := mX3_takeBack) dX3_takeBack_23 rfl (Or.inr (Or.inl ⟨_, rfl⟩)) ?_
  refine ew_get (M := mX3_takeBack) dX3_takeBack_24 fX3_18 (by repeat (first | with_reducible assumption | refine ex_eq ?_ | refine ex_ne ?_ (by omega) | exact ex_lt (by with_reducible assumption) | rw [List.length_set] | assumption)) (by rfl) ?_
  refine ew_aload_n (M := mX3_takeBack) dX3_takeBack_27 rfl (Or.inr (Or.inl ⟨_, rfl⟩)) ?_
  refine ew_get (M := mX3_takeBack) dX3_takeBack_28 fX3_13 (by repeat (first | with_reducible assumption | refine ex_eq ?_ | refine ex_ne ?_ (by omega) | exact ex_lt (by with_reducible assumption) | rw [List.length_set] | assumption)) (by rfl) ?_
  refine ew_aload_n (M := mX3_takeBack) dX3_takeBack_31 rfl (Or.inr (Or.inl ⟨_, rfl⟩)) ?_
  refine ew_get (M := mX3_takeBack) dX3_takeBack_32 fX3_7 (by repeat (first | with_reducible assumption | refine ex_eq ?_ | refine ex_ne ?_ (by omega) | exact ex_lt (by with_reducible assumption) | rw [List.length_set] | assumption)) (by rfl) ?_
  refine ew_iadd (M := mX3_takeBack) dX3_takeBack_35 ?_
  rw [nI_add]
  refine ew_bipush (M := mX3_takeBack) dX3_takeBack_36 (v := nI 16) (by decide) ?_
  refine ew_irem (M := mX3_takeBack) dX3_takeBack_38 (by decide) ?_
  rw [pk_rem (by omega) (by decide) (by decide)]
  refine ew_aald (t0 := 3) (M := mX3_takeBack) ((old + (cnt - n)) % 16) dX3_takeBack_39 (by repeat (first | with_reducible assumption | refine ex_eq ?_ | refine ex_ne ?_ (by omega) | exact ex_lt (by with_reducible assumption) | rw [List.length_set] | assumption)) (fun _ => rfl) ⟨rfl, hm, by decide⟩ ?_
  rw [hf]
  refine ew_callV (M := mX3_takeBack) dX3_takeBack_40 vX3_23 (by repeat (first | with_reducible assumption | refine ex_eq ?_ | refine ex_ne ?_ (by omega) | exact ex_lt (by with_reducible assumption) | rw [List.length_set] | assumption)) rfl (sp_become (ha0.ch (L := [23]) (ex_ch.rf.set (by simp <;> omega)) (by simp <;> omega) (by simp <;> omega) (by simp <;> omega)) (h7n.ch (L := [23]) (ex_ch.rf.set (by simp <;> omega)) (by simp <;> omega) (by simp <;> omega) (by simp <;> omega)) (by omega)) rfl (Nat.le_of_ble_eq_true rfl) ⟨Nat.le_refl _, Nat.le_refl _⟩ rfl (fun H40 r40 q40 => ?_)
  obtain ⟨rfl, hc1, hp1⟩ := q40
  refine ew_vret (M := mX3_takeBack) dX3_takeBack_43 rfl (Nat.le_refl _) (Nat.le_refl _) ?_
  have hcc : ex_ch H (H.set 23 (ob 3 [.int (nI (cnt - n)), .int (nI old), .ref 24])) [23] := ex_ch.rf.set (by simp <;> omega)
  have hh2 : hi_is (H.set 23 (ob 3 [.int (nI (cnt - n)), .int (nI old), .ref 24])) (cnt - n) hs := by
    refine ⟨by omega, fun i hi => (h2 i hi).ch hcc (by simp <;> omega) (by simp <;> omega) (by simp <;> omega), ⟨f, hcc.at h3 (by simp <;> omega), h4⟩, old, h5, ex_eq (ex_lt h6), fun i hi => ?_⟩
    have hmi : (old + i) % 16 < 16 := Nat.mod_lt _ (by decide)
    exact (h7 i (by omega)).ch hcc (by simp <;> omega) (by simp <;> omega) (by simp <;> omega)
  exact ⟨rfl, (hcc.sub (by simp <;> omega)).tr hc1 (by simp <;> omega), hh2.ch hc1 (by simp <;> omega), hp1⟩
theorem sp_forget {d : Nat} {H : ex_H} {cnt : Nat} {hs : Nat → PT} (hh : hi_is H cnt hs) : ex_Met mX3_forget d 0 0 H [.ref 23] (fun H' r => r = none ∧ ex_ch H H' [23] ∧ hi_is H' 0 hs) := by
  obtain ⟨h1, h2, ⟨f, h3, h4⟩, old, h5, h6, h7⟩ := id hh
  refine ex_meth [(0, .ref 23)] rfl rfl rfl (fun b => Nat.le_of_ble_eq_true rfl) ?_
  refine ew_aload_n (M := mX3_forget) dX3_forget_0 rfl (Or.inr (Or.inl ⟨_, rfl⟩)) ?_
  refine ew_iconst (M := mX3_forget) dX3_forget_1 (v := nI 0) (by decide) ?_
  refine ew_put (M := mX3_forget) dX3_forget_2 fX3_7 (by repeat (first | with_reducible assumption | refine ex_eq ?_ | refine ex_ne ?_ (by omega) | exact ex_lt (by with_reducible assumption) | rw [List.length_set] | assumption)) (by exact Nat.le_of_ble_eq_true rfl) ⟨rfl, rfl, fun _ h => by cases h⟩ ?_
  refine ew_vret (M := mX3_forget) dX3_forget_5 rfl (Nat.le_refl _) (Nat.le_refl _) ?_
  have hcc : ex_ch H (H.set 23 (ob 3 [.int (nI 0), .int (nI old), .ref 24])) [23] := ex_ch.rf.set (by simp <;> omega)
  exact ⟨rfl, hcc, by omega, fun i hi => (h2 i hi).ch hcc (by simp <;> omega) (by simp <;> omega) (by simp <;> omega), ⟨f, hcc.at h3 (by simp <;> omega), h4⟩, old, h5, ex_eq (ex_lt h6), fun i hi => absurd hi (Nat.not_lt_zero i)⟩
abbrev BV : Type := Nat × Nat × Int32
def bk_is (H : ex_H) (n : Nat) (B : Nat → BV) : Prop := n ≤ 20 ∧ (∀ k, k < n → (B k).1 < 10 ∧ (B k).2.1 < 8) ∧ H[73]? = some (ob 0 [.int (nI n), .ref 74, .ref 75, .ref 76]) ∧ ∃ xs ys gs, H[74]? = some (ar .int 20 xs) ∧ H[75]? = some (ar .int 20 ys) ∧ H[76]? = some (ar .int 20 gs) ∧ ∀ k, k < n → xs k = nI (B k).1 ∧ ys k = nI (B k).2.1 ∧ gs k = (B k).2.2
theorem bk_is.ch {H H' : ex_H} {L : List Nat} {n : Nat} {B : Nat → BV} (hc : ex_ch H H' L) (h : bk_is H n B) (hL : ∀ k ∈ L, k < 73 ∨ 76 < k) : bk_is H' n B := by
  have hn : ∀ k, 73 ≤ k → k < 77 → k ∉ L := fun k h1 h2 e => by have := hL k e; omega
  obtain ⟨h1, h2, h3, xs, ys, gs, h4, h5, h6, h7⟩ := h
  exact ⟨h1, h2, hc.at h3 (hn _ (by omega) (by omega)), xs, ys, gs, hc.at h4 (hn _ (by omega) (by omega)), hc.at h5 (hn _ (by omega) (by omega)), hc.at h6 (hn _ (by omega) (by omega)), h7⟩
theorem sp_badd_f {d : Nat} {H : ex_H} {n : Nat} {B : Nat → BV} {x y g : Int32} (hb : bk_is H n B) (hn : n = 20) : ex_Met mX0_add d 0 0 H [.ref 73, .int x, .int y, .int g] (ex_r H (.int (-1000000004))) := by
  obtain ⟨h1, h2, h3, xs, ys, gs, h4, h5, h6, h7⟩ := id hb
  subst hn
  refine ex_meth [(0, .ref 73), (1, .int x), (2, .int y), (3, .int g)] rfl rfl rfl (fun b => Nat.le_of_ble_eq_true rfl) ?_
  refine ew_aload_n (M := mX0_add) dX0_add_0 rfl (Or.inr (Or.inl ⟨_, rfl⟩)) ?_
  refine ew_get (M := mX0_add) dX0_add_1 fX0_9 (by repeat (first | with_reducible assumption | refine ex_eq ?_ | refine ex_ne ?_ (by omega) | exact ex_lt (by with_reducible assumption) | rw [List.length_set] | assumption)) (by rfl) ?_
  refine ew_bipush (M := mX0_add) dX0_add_4 (v := nI 20) (by decide) ?_
  refine ew_icmp_lt (M := mX0_add) (tgt := 12) dX0_add_6 rfl (fun h => absurd h (nI_nlt (Nat.le_refl _) (by decide))) (fun _ => ?_)
  refine ew_ldc (M := mX0_add) dX0_add_9 kX0_25 ?_
  refine ew_iret (M := mX0_add) dX0_add_11 rfl (by first | rfl | decide) (Nat.le_refl _) (Nat.le_refl _) ?_
  exact ⟨rfl, rfl⟩
theorem sp_badd {d : Nat} {H : ex_H} {n i j : Nat} {B : Nat → BV} {g : Int32} (hb : bk_is H n B) (hn : n < 20) (hi : i < 10) (hj : j < 8) : ex_Met mX0_add d 0 0 H [.ref 73, .int (nI i), .int (nI j), .int g] (fun H' r => r = some (.int (nI (n + 1))) ∧ ex_ch H H' [73, 74, 75, 76] ∧ bk_is H' (n + 1) (va_up B n (i, j, g))) := by
  obtain ⟨h1, h2, h3, xs, ys, gs, h4, h5, h6, h7⟩ := id hb
  refine ex_meth [(0, .ref 73), (1, .int (nI i)), (2, .int (nI j)), (3, .int g)] rfl rfl rfl (fun b => Nat.le_of_ble_eq_true rfl) ?_
  refine ew_aload_n (M := mX0_add) dX0_add_0 rfl (Or.inr (Or.inl ⟨_, rfl⟩)) ?_
  refine ew_get (M := mX0_add) dX0_add_1 fX0_9 (by repeat (first | with_reducible assumption | refine ex_eq ?_ | refine ex_ne ?_ (by omega) | exact ex_lt (by with_reducible assumption) | rw [List.length_set] | assumption)) (by rfl) ?_
  refine ew_bipush (M := mX0_add) dX0_add_4 (v := nI 20) (by decide) ?_
  refine ew_icmp_lt (M := mX0_add) (tgt := 12) dX0_add_6 rfl (fun _ => ?_) (fun h => absurd (nI_lt hn (by decide)) h)
  refine ew_aload_n (M := mX0_add) dX0_add_12 rfl (Or.inr (Or.inl ⟨_, rfl⟩)) ?_
  refine ew_get (M := mX0_add) dX0_add_13 fX0_15 (by repeat (first | with_reducible assumption | refine ex_eq ?_ | refine ex_ne ?_ (by omega) | exact ex_lt (by with_reducible assumption) | rw [List.length_set] | assumption)) (by rfl) ?_
  refine ew_aload_n (M := mX0_add) dX0_add_16 rfl (Or.inr (Or.inl ⟨_, rfl⟩)) ?_
  refine ew_get (M := mX0_add) dX0_add_17 fX0_9 (by repeat (first | with_reducible assumption | refine ex_eq ?_ | refine ex_ne ?_ (by omega) | exact ex_lt (by with_reducible assumption) | rw [List.length_set] | assumption)) (by rfl) ?_
  refine ew_iload_n (M := mX0_add) dX0_add_20 rfl ?_
  refine ew_iast (M := mX0_add) n dX0_add_21 (by repeat (first | with_reducible assumption | refine ex_eq ?_ | refine ex_ne ?_ (by omega) | exact ex_lt (by with_reducible assumption) | rw [List.length_set] | assumption)) ⟨rfl, hn, by decide⟩ ?_
  refine ew_aload_n (M := mX0_add) dX0_add_22 rfl (Or.inr (Or.inl ⟨_, rfl⟩)) ?_
  refine ew_get (M := mX0_add) dX0_add_23 fX0_19 (by repeat (first | with_reducible assumption | refine ex_eq ?_ | refine ex_ne ?_ (by omega) | exact ex_lt (by with_reducible assumption) | rw [List.length_set] | assumption)) (by rfl) ?_
  refine ew_aload_n (M := mX0_add) dX0_add_26 rfl (Or.inr (Or.inl ⟨_, rfl⟩)) ?_
  refine ew_get (M := mX0_add) dX0_add_27 fX0_9 (by repeat (first | with_reducible assumption | refine ex_eq ?_ | refine ex_ne ?_ (by omega) | exact ex_lt (by with_reducible assumption) | rw [List.length_set] | assumption)) (by rfl) ?_
  refine ew_iload_n (M := mX0_add) dX0_add_30 rfl ?_
  refine ew_iast (M := mX0_add) n dX0_add_31 (by repeat (first | with_reducible assumption | refine ex_eq ?_ | refine ex_ne ?_ (by omega) | exact ex_lt (by with_reducible assumption) | rw [List.length_set] | assumption)) ⟨rfl, hn, by decide⟩ ?_
  refine ew_aload_n (M := mX0_add) dX0_add_32 rfl (Or.inr (Or.inl ⟨_, rfl⟩)) ?_
  refine ew_get (M := mX0_add) dX0_add_33 fX0_22 (by repeat (first | with_reducible assumption | refine ex_eq ?_ | refine ex_ne ?_ (by omega) | exact ex_lt (by with_reducible assumption) | rw [List.length_set] | assumption)) (by rfl) ?_
  refine ew_aload_n (M := mX0_add) dX0_add_36 rfl (Or.inr (Or.inl ⟨_, rfl⟩)) ?_
  refine ew_get (M := mX0_add) dX0_add_37 fX0_9 (by repeat (first | with_reducible assumption | refine ex_eq ?_ | refine ex_ne ?_ (by omega) | exact ex_lt (by with_reducible assumption) | rw [List.length_set] | assumption)) (by rfl) ?_
  refine ew_iload_n (M := mX0_add) dX0_add_40 rfl ?_
  refine ew_iast (M := mX0_add) n dX0_add_41 (by repeat (first | with_reducible assumption | refine ex_eq ?_ | refine ex_ne ?_ (by omega) | exact ex_lt (by with_reducible assumption) | rw [List.length_set] | assumption)) ⟨rfl, hn, by decide⟩ ?_
  refine ew_aload_n (M := mX0_add) dX0_add_42 rfl (Or.inr (Or.inl ⟨_, rfl⟩)) ?_
  refine ew_dup (M := mX0_add) dX0_add_43 rfl ?_
  refine ew_get (M := mX0_add) dX0_add_44 fX0_9 (by repeat (first | with_reducible assumption | refine ex_eq ?_ | refine ex_ne ?_ (by omega) | exact ex_lt (by with_reducible assumption) | rw [List.length_set] | assumption)) (by rfl) ?_
  refine ew_iconst (M := mX0_add) dX0_add_47 (v := nI 1) (by decide) ?_
  refine ew_iadd (M := mX0_add) dX0_add_48 ?_
  rw [nI_add]
  refine ew_put (M := mX0_add) dX0_add_49 fX0_9 (by repeat (first | with_reducible assumption | refine ex_eq ?_ | refine ex_ne ?_ (by omega) | exact ex_lt (by with_reducible assumption) | rw [List.length_set] | assumption)) (by exact Nat.le_of_ble_eq_true rfl) ⟨rfl, rfl, fun _ h => by cases h⟩ ?_
  refine ew_aload_n (M := mX0_add) dX0_add_52 rfl (Or.inr (Or.inl ⟨_, rfl⟩)) ?_
  refine ew_get (M := mX0_add) dX0_add_53 fX0_9 (by repeat (first | with_reducible assumption | refine ex_eq ?_ | refine ex_ne ?_ (by omega) | exact ex_lt (by with_reducible assumption) | rw [List.length_set] | assumption)) (by rfl) ?_
  refine ew_iret (M := mX0_add) dX0_add_56 rfl (by first | rfl | decide) (Nat.le_refl _) (Nat.le_refl _) ?_
  refine ⟨rfl, (((ex_ch.rf.set (by simp <;> omega)).set (by simp <;> omega)).set (by simp <;> omega)).set (by simp <;> omega), by omega, fun k hk => ?_, ex_eq (by rw [List.length_set, List.length_set, List.length_set]; exact ex_lt h3), _, _, _, (by repeat (first | with_reducible assumption | refine ex_eq ?_ | refine ex_ne ?_ (by omega) | exact ex_lt (by with_reducible assumption) | rw [List.length_set] | assumption)), (by repeat (first | with_reducible assumption | refine ex_eq ?_ | refine ex_ne ?_ (by omega) | exact ex_lt (by with_reducible assumption) | rw [List.length_set] | assumption)), (by repeat (first | with_reducible assumption | refine ex_eq ?_ | refine ex_ne ?_ (by omega) | exact ex_lt (by with_reducible assumption) | rw [List.length_set] | assumption)), fun k hk => ?_⟩
  · by_cases e : k = n
    · subst e; simp only [va_up, if_true]; exact ⟨hi, hj⟩
    · simp only [va_up, if_neg e]; exact h2 k (by omega)
  · by_cases e : k = n
    · subst e; simp only [va_up, upd, if_true]; exact ⟨trivial, trivial, trivial⟩
    · simp only [va_up, upd, if_neg e]; exact h7 k (by omega)
/-- an entry of the book is otherwise now -/
def bwr (P : PT) (v : BV) : Prop := ¬ (v.1 < P.1 ∧ v.2.1 < P.2.1) ∨ nI (P.2.2.1 (v.2.1 * P.1 + v.1)) ≠ v.2.2
noncomputable def ffw (W : Nat → Prop) : Nat → Nat → Int32
  | 0, _ => -1
  | n + 1, i => if Classical.propDecidable (W i) |>.decide then nI i else ffw W n (i + 1)
theorem ffw_y {W : Nat → Prop} {n i : Nat} (h : W i) : ffw W (n + 1) i = nI i := by
  show (if (Classical.propDecidable (W i)).decide = true then nI i else _) = _
  rw [if_pos (by simpa using h)]
theorem ffw_n {W : Nat → Prop} {n i : Nat} (h : ¬ W i) : ffw W (n + 1) i = ffw W n (i + 1) := by
  show (if (Classical.propDecidable (W i)).decide = true then nI i else _) = _
  rw [if_neg (by simpa using h)]
theorem pi_in_nI {w h i j : Nat} (hi : i < 2 ^ 31) (hj : j < 2 ^ 31) (hw : w < 2 ^ 31) (hh : h < 2 ^ 31) : pi_in w h (nI i) (nI j) ↔ i < w ∧ j < h := by
  constructor
  · rintro ⟨a, b, e1, h1, e2, h2⟩
    rw [nI_eq hi (by omega)] at e1
    rw [nI_eq hj (by omega)] at e2
    omega
  · intro h1
    exact ⟨i, j, rfl, h1.1, rfl, h1.2⟩
theorem sp_firstWrong {d : Nat} {H : ex_H} {n p : Nat} {B : Nat → BV} {P : PT} (hb : bk_is H n B) (hp : pis H p P) : ex_Met mX0_firstWrong (d + 2) 0 0 H [.ref 73, .ref p] (ex_r H (.int (ffw (fun k => bwr P (B k)) n 0))) := by
  obtain ⟨w, h, g, m⟩ := P
  obtain ⟨h1, h2, h3, xs, ys, gs, h4, h5, h6, h7⟩ := id hb
  obtain ⟨⟨hz, hgm⟩, gp, mp, ⟨hp1, hp2, hp3⟩, hct⟩ := id hp
  dsimp only at *
  obtain ⟨hz1, hz2, hz3, hz4⟩ := id hz
  refine ex_meth [(0, .ref 73), (1, .ref p)] rfl rfl rfl (fun b => Nat.le_of_ble_eq_true rfl) ?_
  refine ew_iconst (M := mX0_firstWrong) dX0_firstWrong_0 (v := nI 0) (by decide) ?_
  refine ew_istore_n (M := mX0_firstWrong) dX0_firstWrong_1 (by decide) rfl ?_
  have key : ∀ k i, i + k = n → ffw (fun k => bwr (w, h, g, m) (B k)) n 0 = ffw (fun k => bwr (w, h, g, m) (B k)) k i → ex_W mX0_firstWrong (d + 2) 0 0 (ex_r H (.int (ffw (fun k => bwr (w, h, g, m) (B k)) n 0))) H 2 [(0, .ref 73), (1, .ref p), (2, .int (nI i))] [] 0 0 := by
    intro k
    induction k with
    | zero =>
      intro i hi e0
      rw [e0]
      refine ew_iload_n (M := mX0_firstWrong) dX0_firstWrong_2 rfl ?_
      refine ew_aload_n (M := mX0_firstWrong) dX0_firstWrong_3 rfl (Or.inr (Or.inl ⟨_, rfl⟩)) ?_
      refine ew_get (M := mX0_firstWrong) dX0_firstWrong_4 fX0_9 (by repeat (first | with_reducible assumption | refine ex_eq ?_ | refine ex_ne ?_ (by omega) | exact ex_lt (by with_reducible assumption) | rw [List.length_set] | assumption)) (by rfl) ?_
      refine ew_icmp_ge (M := mX0_firstWrong) (tgt := 62) dX0_firstWrong_7 rfl (fun _ => ?_) (fun h => absurd (nI_le (by omega) (by omega)) h)
      refine ew_iconst (M := mX0_firstWrong) dX0_firstWrong_62 (v := (-1)) (by decide) ?_
      refine ew_iret (M := mX0_firstWrong) dX0_firstWrong_63 rfl (by first | rfl | decide) (Nat.le_refl _) (Nat.le_refl _) ?_
      exact ⟨rfl, rfl⟩
    | succ k ih =>
      intro i hi e0
      obtain ⟨g1, g2, g3⟩ := h7 i (by omega)
      obtain ⟨b1, b2⟩ := h2 i (by omega)
      by_cases hin : (B i).1 < w ∧ (B i).2.1 < h
      · have hgg := (hgm _ (pi_lt hin.1 hin.2)).1
        refine ew_iload_n (M := mX0_firstWrong) dX0_firstWrong_2 rfl ?_
        refine ew_aload_n (M := mX0_firstWrong) dX0_firstWrong_3 rfl (Or.inr (Or.inl ⟨_, rfl⟩)) ?_
        refine ew_get (M := mX0_firstWrong) dX0_firstWrong_4 fX0_9 (by repeat (first | with_reducible assumption | refine ex_eq ?_ | refine ex_ne ?_ (by omega) | exact ex_lt (by with_reducible assumption) | rw [List.length_set] | assumption)) (by rfl) ?_
        refine ew_icmp_ge (M := mX0_firstWrong) (tgt := 62) dX0_firstWrong_7 rfl (fun h => absurd h (nI_ge (by omega) (by omega))) (fun _ => ?_)
        refine ew_aload_n (M := mX0_firstWrong) dX0_firstWrong_10 rfl (Or.inr (Or.inl ⟨_, rfl⟩)) ?_
        refine ew_aload_n (M := mX0_firstWrong) dX0_firstWrong_11 rfl (Or.inr (Or.inl ⟨_, rfl⟩)) ?_
        refine ew_get (M := mX0_firstWrong) dX0_firstWrong_12 fX0_15 (by repeat (first | with_reducible assumption | refine ex_eq ?_ | refine ex_ne ?_ (by omega) | exact ex_lt (by with_reducible assumption) | rw [List.length_set] | assumption)) (by rfl) ?_
        refine ew_iload_n (M := mX0_firstWrong) dX0_firstWrong_15 rfl ?_
        refine ew_iald (M := mX0_firstWrong) i dX0_firstWrong_16 (by repeat (first | with_reducible assumption | refine ex_eq ?_ | refine ex_ne ?_ (by omega) | exact ex_lt (by with_reducible assumption) | rw [List.length_set] | assumption)) ⟨rfl, by omega, by decide⟩ ?_
        rw [g1]
        refine ew_aload_n (M := mX0_firstWrong) dX0_firstWrong_17 rfl (Or.inr (Or.inl ⟨_, rfl⟩)) ?_
        refine ew_get (M := mX0_firstWrong) dX0_firstWrong_18 fX0_19 (by repeat (first | with_reducible assumption | refine ex_eq ?_ | refine ex_ne ?_ (by omega) | exact ex_lt (by with_reducible assumption) | rw [List.length_set] | assumption)) (by rfl) ?_
        refine ew_iload_n (M := mX0_firstWrong) dX0_firstWrong_21 rfl ?_
        refine ew_iald (M := mX0_firstWrong) i dX0_firstWrong_22 (by repeat (first | with_reducible assumption | refine ex_eq ?_ | refine ex_ne ?_ (by omega) | exact ex_lt (by with_reducible assumption) | rw [List.length_set] | assumption)) ⟨rfl, by omega, by decide⟩ ?_
        rw [g2]
        refine ew_callV (M := mX0_firstWrong) dX0_firstWrong_23 vX0_26 (by repeat (first | with_reducible assumption | refine ex_eq ?_ | refine ex_ne ?_ (by omega) | exact ex_lt (by with_reducible assumption) | rw [List.length_set] | assumption)) rfl (sp_has_y hp hin.1 hin.2) rfl (Nat.le_of_ble_eq_true rfl) ⟨Nat.le_refl _, Nat.le_refl _⟩ rfl (fun H23 r23 q23 => ?_)
        obtain ⟨rfl, rfl⟩ := q23
        refine ew_if_eq (M := mX0_firstWrong) (tgt := 54) dX0_firstWrong_26 rfl (fun h => absurd h (by decide)) (fun _ => ?_)
        refine ew_aload_n (M := mX0_firstWrong) dX0_firstWrong_29 rfl (Or.inr (Or.inl ⟨_, rfl⟩)) ?_
        refine ew_aload_n (M := mX0_firstWrong) dX0_firstWrong_30 rfl (Or.inr (Or.inl ⟨_, rfl⟩)) ?_
        refine ew_get (M := mX0_firstWrong) dX0_firstWrong_31 fX0_15 (by repeat (first | with_reducible assumption | refine ex_eq ?_ | refine ex_ne ?_ (by omega) | exact ex_lt (by with_reducible assumption) | rw [List.length_set] | assumption)) (by rfl) ?_
        refine ew_iload_n (M := mX0_firstWrong) dX0_firstWrong_34 rfl ?_
        refine ew_iald (M := mX0_firstWrong) i dX0_firstWrong_35 (by repeat (first | with_reducible assumption | refine ex_eq ?_ | refine ex_ne ?_ (by omega) | exact ex_lt (by with_reducible assumption) | rw [List.length_set] | assumption)) ⟨rfl, by omega, by decide⟩ ?_
        rw [g1]
        refine ew_aload_n (M := mX0_firstWrong) dX0_firstWrong_36 rfl (Or.inr (Or.inl ⟨_, rfl⟩)) ?_
        refine ew_get (M := mX0_firstWrong) dX0_firstWrong_37 fX0_19 (by repeat (first | with_reducible assumption | refine ex_eq ?_ | refine ex_ne ?_ (by omega) | exact ex_lt (by with_reducible assumption) | rw [List.length_set] | assumption)) (by rfl) ?_
        refine ew_iload_n (M := mX0_firstWrong) dX0_firstWrong_40 rfl ?_
        refine ew_iald (M := mX0_firstWrong) i dX0_firstWrong_41 (by repeat (first | with_reducible assumption | refine ex_eq ?_ | refine ex_ne ?_ (by omega) | exact ex_lt (by with_reducible assumption) | rw [List.length_set] | assumption)) ⟨rfl, by omega, by decide⟩ ?_
        rw [g2]
        refine ew_callV (M := mX0_firstWrong) dX0_firstWrong_42 vX0_32 (by repeat (first | with_reducible assumption | refine ex_eq ?_ | refine ex_ne ?_ (by omega) | exact ex_lt (by with_reducible assumption) | rw [List.length_set] | assumption)) rfl (sp_greyOf hp hin.1 hin.2) rfl (Nat.le_of_ble_eq_true rfl) ⟨Nat.le_refl _, Nat.le_refl _⟩ rfl (fun H42 r42 q42 => ?_)
        obtain ⟨rfl, rfl⟩ := q42
        refine ew_aload_n (M := mX0_firstWrong) dX0_firstWrong_45 rfl (Or.inr (Or.inl ⟨_, rfl⟩)) ?_
        refine ew_get (M := mX0_firstWrong) dX0_firstWrong_46 fX0_22 (by repeat (first | with_reducible assumption | refine ex_eq ?_ | refine ex_ne ?_ (by omega) | exact ex_lt (by with_reducible assumption) | rw [List.length_set] | assumption)) (by rfl) ?_
        refine ew_iload_n (M := mX0_firstWrong) dX0_firstWrong_49 rfl ?_
        refine ew_iald (M := mX0_firstWrong) i dX0_firstWrong_50 (by repeat (first | with_reducible assumption | refine ex_eq ?_ | refine ex_ne ?_ (by omega) | exact ex_lt (by with_reducible assumption) | rw [List.length_set] | assumption)) ⟨rfl, by omega, by decide⟩ ?_
        rw [g3]
        refine ew_icmp_eq (M := mX0_firstWrong) (tgt := 56) dX0_firstWrong_51 rfl (fun c51 => ?_) (fun c51 => ?_)
        · rw [ffw_n (W := fun k => bwr (w, h, g, m) (B k)) (i := i) (fun q => q.elim (fun q => q hin) (fun q => q c51))] at e0
          refine ew_iinc (M := mX0_firstWrong) dX0_firstWrong_56 rfl (ex_inc i) (by decide) rfl ?_
          refine ew_goto (M := mX0_firstWrong) (tgt := 2) dX0_firstWrong_59 rfl ?_
          refine ew_ls _ ?_ (ih (i + 1) (by omega) e0)
          exact ⟨rfl, rfl, rfl, trivial⟩
        · rw [ffw_y (W := fun k => bwr (w, h, g, m) (B k)) (i := i) (Or.inr c51)] at e0
          refine ew_iload_n (M := mX0_firstWrong) dX0_firstWrong_54 rfl ?_
          refine ew_iret (M := mX0_firstWrong) dX0_firstWrong_55 rfl (by first | rfl | decide) (Nat.le_refl _) (Nat.le_refl _) ?_
          exact ⟨rfl, by rw [e0]⟩
      · rw [ffw_y (W := fun k => bwr (w, h, g, m) (B k)) (i := i) (Or.inl hin)] at e0
        refine ew_iload_n (M := mX0_firstWrong) dX0_firstWrong_2 rfl ?_
        refine ew_aload_n (M := mX0_firstWrong) dX0_firstWrong_3 rfl (Or.inr (Or.inl ⟨_, rfl⟩)) ?_
        refine ew_get (M := mX0_firstWrong) dX0_firstWrong_4 fX0_9 (by repeat (first | with_reducible assumption | refine ex_eq ?_ | refine ex_ne ?_ (by omega) | exact ex_lt (by with_reducible assumption) | rw [List.length_set] | assumption)) (by rfl) ?_
        refine ew_icmp_ge (M := mX0_firstWrong) (tgt := 62) dX0_firstWrong_7 rfl (fun h => absurd h (nI_ge (by omega) (by omega))) (fun _ => ?_)
        refine ew_aload_n (M := mX0_firstWrong) dX0_firstWrong_10 rfl (Or.inr (Or.inl ⟨_, rfl⟩)) ?_
        refine ew_aload_n (M := mX0_firstWrong) dX0_firstWrong_11 rfl (Or.inr (Or.inl ⟨_, rfl⟩)) ?_
        refine ew_get (M := mX0_firstWrong) dX0_firstWrong_12 fX0_15 (by repeat (first | with_reducible assumption | refine ex_eq ?_ | refine ex_ne ?_ (by omega) | exact ex_lt (by with_reducible assumption) | rw [List.length_set] | assumption)) (by rfl) ?_
        refine ew_iload_n (M := mX0_firstWrong) dX0_firstWrong_15 rfl ?_
        refine ew_iald (M := mX0_firstWrong) i dX0_firstWrong_16 (by repeat (first | with_reducible assumption | refine ex_eq ?_ | refine ex_ne ?_ (by omega) | exact ex_lt (by with_reducible assumption) | rw [List.length_set] | assumption)) ⟨rfl, by omega, by decide⟩ ?_
        rw [g1]
        refine ew_aload_n (M := mX0_firstWrong) dX0_firstWrong_17 rfl (Or.inr (Or.inl ⟨_, rfl⟩)) ?_
        refine ew_get (M := mX0_firstWrong) dX0_firstWrong_18 fX0_19 (by repeat (first | with_reducible assumption | refine ex_eq ?_ | refine ex_ne ?_ (by omega) | exact ex_lt (by with_reducible assumption) | rw [List.length_set] | assumption)) (by rfl) ?_
        refine ew_iload_n (M := mX0_firstWrong) dX0_firstWrong_21 rfl ?_
        refine ew_iald (M := mX0_firstWrong) i dX0_firstWrong_22 (by repeat (first | with_reducible assumption | refine ex_eq ?_ | refine ex_ne ?_ (by omega) | exact ex_lt (by with_reducible assumption) | rw [List.length_set] | assumption)) ⟨rfl, by omega, by decide⟩ ?_
        rw [g2]
        refine ew_callV (M := mX0_firstWrong) dX0_firstWrong_23 vX0_26 (by repeat (first | with_reducible assumption | refine ex_eq ?_ | refine ex_ne ?_ (by omega) | exact ex_lt (by with_reducible assumption) | rw [List.length_set] | assumption)) rfl (sp_has_n hp (fun q => hin ((pi_in_nI (by omega) (by omega) (by omega) (by omega)).mp q))) rfl (Nat.le_of_ble_eq_true rfl) ⟨Nat.le_refl _, Nat.le_refl _⟩ rfl (fun H23 r23 q23 => ?_)
        obtain ⟨rfl, rfl⟩ := q23
        refine ew_if_eq (M := mX0_firstWrong) (tgt := 54) dX0_firstWrong_26 rfl (fun _ => ?_) (fun h => absurd rfl h)
        refine ew_iload_n (M := mX0_firstWrong) dX0_firstWrong_54 rfl ?_
        refine ew_iret (M := mX0_firstWrong) dX0_firstWrong_55 rfl (by first | rfl | decide) (Nat.le_refl _) (Nat.le_refl _) ?_
        exact ⟨rfl, by rw [e0]⟩
  refine ew_ls _ ?_ (key n 0 (by omega) rfl)
  exact ⟨rfl, rfl, rfl, trivial⟩
