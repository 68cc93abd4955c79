abbrev PT : Type := Nat × Nat × (Nat → Nat) × (Nat → Nat)
abbrev ST : Type := PT × (Nat × (Nat → FV)) × Nat × Nat
def pis (H : ex_H) (p : Nat) (P : PT) : Prop := pi_is H p P.1 P.2.1 P.2.2.1 P.2.2.2
def st_is (H : ex_H) (s : Nat) (z : ST) : Prop := H[s]? = some (ob 6 [.ref (s + 1), .ref (s + 4), .int (nI z.2.2.1), .int (nI z.2.2.2)]) ∧ z.2.2.1 < 256 ∧ z.2.2.2 < 2 ^ 31 ∧ pis H (s + 1) z.1 ∧ fs_is H (s + 4) z.2.1.1 z.2.1.2
theorem pis.ch {H H' : ex_H} {L : List Nat} {p : Nat} {P : PT} (hc : ex_ch H H' L) (h : pis H p P) (h0 : p ∉ L) (h1 : p + 1 ∉ L) (h2 : p + 2 ∉ L) : pis H' p P := pi_is.ch hc h h0 h1 h2
theorem pis.any {H : ex_H} {p : Nat} {P : PT} (h : pis H p P) : pi_any H p := by
  obtain ⟨-, gs, ms, h1, -⟩ := h
  exact ⟨_, _, gs, ms, h1⟩
theorem st_is.ch {H H' : ex_H} {L : List Nat} {s : Nat} {z : ST} (hc : ex_ch H H' L) (h : st_is H s z) (hL : ∀ k ∈ L, k < 98) (h0 : ∀ k ∈ L, k < s ∨ s + 5 < k) : st_is H' s z := by
  have hn : ∀ i, i < 6 → s + i ∉ L := fun i hi e => by have := h0 _ e; omega
  exact ⟨hc.at h.1 (hn 0 (by decide)), h.2.1, h.2.2.1, h.2.2.2.1.ch hc (hn 1 (by decide)) (hn 2 (by decide)) (hn 3 (by decide)), h.2.2.2.2.ch hc hL (hn 4 (by decide)) (hn 5 (by decide))⟩
/-- the next seed -/
def sn (sd : Nat) : Nat := (sd * 1103515245 + 12345) % 2147483648
def dr (sd n : Nat) : Nat := sn sd / 65536 % n
theorem sn_lt (sd : Nat) : sn sd < 2 ^ 31 := Nat.mod_lt _ (by decide)
theorem dr_lt {sd n : Nat} (h : 0 < n) : dr sd n < n := Nat.mod_lt _ h
theorem sp_draw {d : Nat} {H : ex_H} {s sd n : Nat} {a b c : Value} (hs : H[s]? = some (ob 6 [a, b, c, .int (nI sd)])) (hsd : sd < 2 ^ 31) (hn : 0 < n) (hn2 : n < 1000) : ex_Met mX6_draw d 0 0 H [.ref s, .int (nI n)] (fun H' r => H.set s (ob 6 [a, b, c, .int (nI (sn sd))]) = H' ∧ r = some (.int (nI (dr sd n)))) := by
  have e1 : (1103515245 : Int64) = lN 1103515245 := by decide
  have e2 : (12345 : Int64) = lN 12345 := by decide
  have e3 : (2147483648 : Int64) = lN 2147483648 := by decide
  have e4 : (65536 : Int32) = nI 65536 := by decide
  have hsl := sn_lt sd
  refine ex_meth [(0, .ref s), (1, .int (nI n))] rfl rfl rfl (fun b => Nat.le_of_ble_eq_true rfl) ?_
  refine ew_aload_n (M := mX6_draw) dX6_draw_0 rfl (Or.inr (Or.inl ⟨_, rfl⟩)) ?_
  refine ew_aload_n (M := mX6_draw) dX6_draw_1 rfl (Or.inr (Or.inl ⟨_, rfl⟩)) ?_
  refine ew_get (M := mX6_draw) dX6_draw_2 fX6_29 (by repeat (first | with_reducible assumption | refine ex_eq ?_ | refine ex_ne ?_ (by omega) | exact ex_lt (by with_reducible assumption) | rw [List.length_set] | assumption)) (by rfl) ?_
  refine ew_i2l (M := mX6_draw) dX6_draw_5 ?_
  rw [nI_l hsd]
  refine ew_ldc2 (M := mX6_draw) dX6_draw_6 kX6_53 ?_
  refine ew_lmul (M := mX6_draw) dX6_draw_9 ?_
  rw [e1, lN_mul]
  refine ew_ldc2 (M := mX6_draw) dX6_draw_10 kX6_55 ?_
  refine ew_ladd (M := mX6_draw) dX6_draw_13 ?_
  rw [e2, lN_add]
  refine ew_ldc2 (M := mX6_draw) dX6_draw_14 kX6_57 ?_
  refine ew_lrem (M := mX6_draw) dX6_draw_17 (by decide) ?_
  rw [e3, pk_lRem (by omega) (by decide) (by decide)]
  refine ew_l2i (M := mX6_draw) dX6_draw_18 ?_
  rw [lN_i]
  change ex_W _ _ _ _ _ _ _ _ (.int (nI (sn sd)) :: _) _ _
  refine ew_put (M := mX6_draw) dX6_draw_19 fX6_29 (by repeat (first | with_reducible assumption | refine ex_eq ?_ | refine ex_ne ?_ (by omega) | exact ex_lt (by with_reducible assumption) | rw [List.length_set] | assumption)) (by exact Nat.le_of_ble_eq_true rfl) ⟨rfl, rfl, fun _ h => by cases h⟩ ?_
  refine ew_iload_n (M := mX6_draw) dX6_draw_22 rfl ?_
  refine ew_if_le (M := mX6_draw) (tgt := 38) dX6_draw_23 rfl (fun h => absurd h (nI_nle hn (by omega))) (fun _ => ?_)
  refine ew_aload_n (M := mX6_draw) dX6_draw_26 rfl (Or.inr (Or.inl ⟨_, rfl⟩)) ?_
  refine ew_get (M := mX6_draw) dX6_draw_27 fX6_29 (by repeat (first | with_reducible assumption | refine ex_eq ?_ | refine ex_ne ?_ (by omega) | exact ex_lt (by with_reducible assumption) | rw [List.length_set] | assumption)) (by rfl) ?_
  refine ew_ldc (M := mX6_draw) dX6_draw_30 kX6_59 ?_
  refine ew_idiv (M := mX6_draw) dX6_draw_32 (by decide) ?_
  rw [e4, pk_div hsl (by decide) (by decide)]
  refine ew_iload_n (M := mX6_draw) dX6_draw_33 rfl ?_
  refine ew_irem (M := mX6_draw) dX6_draw_34 (nI_n0 hn (by omega)) ?_
  rw [pk_rem (by omega) hn (by omega)]
  refine ew_goto (M := mX6_draw) (tgt := 39) dX6_draw_35 rfl ?_
  refine ew_iret (M := mX6_draw) dX6_draw_39 rfl (by first | rfl | decide) (Nat.le_refl _) (Nat.le_refl _) ?_
  exact ⟨rfl, rfl⟩
/-- a speck by draws: the picture and the seed behind it -/
def spk (P : PT) (sd : Nat) : PT × Nat :=
  if dr (sn (sn sd)) 3 = 0 then ((P.1, P.2.1, va_up P.2.2.1 (dr (sn sd) P.2.1 * P.1 + dr sd P.1) 0, P.2.2.2), sn (sn (sn sd)))
  else if dr (sn (sn sd)) 3 = 1 then ((P.1, P.2.1, va_up P.2.2.1 (dr (sn sd) P.2.1 * P.1 + dr sd P.1) 255, P.2.2.2), sn (sn (sn sd)))
  else ((P.1, P.2.1, va_up P.2.2.1 (dr (sn sd) P.2.1 * P.1 + dr sd P.1) (dr (sn (sn (sn sd))) 256), P.2.2.2), sn (sn (sn (sn sd))))
theorem sp_speckle {d : Nat} {H : ex_H} {s : Nat} {z : ST} (hs : st_is H s z) (hs0 : s + 5 < 98) : ex_Met mX6_speckle (d + 2) 0 0 H [.ref s] (fun H' r => r = none ∧ ex_ch H H' [s, s + 2] ∧ st_is H' s ((spk z.1 z.2.2.2).1, z.2.1, z.2.2.1, (spk z.1 z.2.2.2).2)) := by
  obtain ⟨⟨w, h, g, m⟩, ⟨n, F⟩, fi, sd⟩ := z
  obtain ⟨h1, h2, h3, h4, h5⟩ := id hs
  obtain ⟨⟨hz, hgm⟩, gs, ms, ⟨hp1, hp2, hp3⟩, hct⟩ := id h4
  dsimp only at *
  obtain ⟨hz1, hz2, hz3, hz4⟩ := id hz
  have l1 := sn_lt sd
  have l2 := sn_lt (sn sd)
  have l3 := sn_lt (sn (sn sd))
  refine ex_meth [(0, .ref s)] rfl rfl rfl (fun b => Nat.le_of_ble_eq_true rfl) ?_
  by_cases k0 : dr (sn (sn sd)) 3 = 0
  · refine ew_aload_n (M := mX6_speckle) dX6_speckle_0 rfl (Or.inr (Or.inl ⟨_, rfl⟩)) ?_
    refine ew_aload_n (M := mX6_speckle) dX6_speckle_1 rfl (Or.inr (Or.inl ⟨_, rfl⟩)) ?_
    refine ew_get (M := mX6_speckle) dX6_speckle_2 fX6_12 (by repeat (first | with_reducible assumption | refine ex_eq ?_ | refine ex_ne ?_ (by omega) | exact ex_lt (by with_reducible assumption) | rw [List.length_set] | assumption)) (by rfl) ?_
    refine ew_get (M := mX6_speckle) dX6_speckle_5 fX6_39 (by repeat (first | with_reducible assumption | refine ex_eq ?_ | refine ex_ne ?_ (by omega) | exact ex_lt (by with_reducible assumption) | rw [List.length_set] | assumption)) (by rfl) ?_
    refine ew_callV (M := mX6_speckle) dX6_speckle_8 vX6_42 (by repeat (first | with_reducible assumption | refine ex_eq ?_ | refine ex_ne ?_ (by omega) | exact ex_lt (by with_reducible assumption) | rw [List.length_set] | assumption)) rfl (sp_draw (s := s) (sd := sd) (a := .ref (s + 1)) (b := .ref (s + 4)) (c := .int (nI fi)) (by repeat (first | with_reducible assumption | refine ex_eq ?_ | refine ex_ne ?_ (by omega) | exact ex_lt (by with_reducible assumption) | rw [List.length_set] | assumption)) h3 (by omega) (by omega)) rfl (Nat.le_of_ble_eq_true rfl) ⟨Nat.le_refl _, Nat.le_refl _⟩ rfl (fun H8 r8 q8 => ?_)
    obtain ⟨rfl, rfl⟩ := q8
    refine ew_istore_n (M := mX6_speckle) dX6_speckle_11 (by decide) rfl ?_
    refine ew_aload_n (M := mX6_speckle) dX6_speckle_12 rfl (Or.inr (Or.inl ⟨_, rfl⟩)) ?_
    refine ew_aload_n (M := mX6_speckle) dX6_speckle_13 rfl (Or.inr (Or.inl ⟨_, rfl⟩)) ?_
    refine ew_get (M := mX6_speckle) dX6_speckle_14 fX6_12 (by repeat (first | with_reducible assumption | refine ex_eq ?_ | refine ex_ne ?_ (by omega) | exact ex_lt (by with_reducible assumption) | rw [List.length_set] | assumption)) (by rfl) ?_
    refine ew_get (M := mX6_speckle) dX6_speckle_17 fX6_46 (by repeat (first | with_reducible assumption | refine ex_eq ?_ | refine ex_ne ?_ (by omega) | exact ex_lt (by with_reducible assumption) | rw [List.length_set] | assumption)) (by rfl) ?_
    refine ew_callV (M := mX6_speckle) dX6_speckle_20 vX6_42 (by repeat (first | with_reducible assumption | refine ex_eq ?_ | refine ex_ne ?_ (by omega) | exact ex_lt (by with_reducible assumption) | rw [List.length_set] | assumption)) rfl (sp_draw (s := s) (sd := sn sd) (a := .ref (s + 1)) (b := .ref (s + 4)) (c := .int (nI fi)) (by repeat (first | with_reducible assumption | refine ex_eq ?_ | refine ex_ne ?_ (by omega) | exact ex_lt (by with_reducible assumption) | rw [List.length_set] | assumption)) l1 (by omega) (by omega)) rfl (Nat.le_of_ble_eq_true rfl) ⟨Nat.le_refl _, Nat.le_refl _⟩ rfl (fun H20 r20 q20 => ?_)
    obtain ⟨rfl, rfl⟩ := q20
    refine ew_istore_n (M := mX6_speckle) dX6_speckle_23 (by decide) rfl ?_
    refine ew_aload_n (M := mX6_speckle) dX6_speckle_24 rfl (Or.inr (Or.inl ⟨_, rfl⟩)) ?_
    refine ew_iconst (M := mX6_speckle) dX6_speckle_25 (v := nI 3) (by decide) ?_
    refine ew_callV (M := mX6_speckle) dX6_speckle_26 vX6_42 (by repeat (first | with_reducible assumption | refine ex_eq ?_ | refine ex_ne ?_ (by omega) | exact ex_lt (by with_reducible assumption) | rw [List.length_set] | assumption)) rfl (sp_draw (s := s) (sd := sn (sn sd)) (a := .ref (s + 1)) (b := .ref (s + 4)) (c := .int (nI fi)) (by repeat (first | with_reducible assumption | refine ex_eq ?_ | refine ex_ne ?_ (by omega) | exact ex_lt (by with_reducible assumption) | rw [List.length_set] | assumption)) l2 (by decide) (by omega)) rfl (Nat.le_of_ble_eq_true rfl) ⟨Nat.le_refl _, Nat.le_refl _⟩ rfl (fun H26 r26 q26 => ?_)
    obtain ⟨rfl, rfl⟩ := q26
    refine ew_istore_n (M := mX6_speckle) dX6_speckle_29 (by decide) rfl ?_
    refine ew_iload_n (M := mX6_speckle) dX6_speckle_30 rfl ?_
    refine ew_if_ne (M := mX6_speckle) (tgt := 38) dX6_speckle_31 rfl (fun h => absurd (by rw [k0]; rfl) h) (fun _ => ?_)
    refine ew_iconst (M := mX6_speckle) dX6_speckle_34 (v := nI 0) (by decide) ?_
    refine ew_goto (M := mX6_speckle) (tgt := 56) dX6_speckle_35 rfl ?_
    refine ew_istore (M := mX6_speckle) dX6_speckle_56 (by decide) rfl ?_
    refine ew_aload_n (M := mX6_speckle) dX6_speckle_58 rfl (Or.inr (Or.inl ⟨_, rfl⟩)) ?_
    refine ew_get (M := mX6_speckle) dX6_speckle_59 fX6_12 (by repeat (first | with_reducible assumption | refine ex_eq ?_ | refine ex_ne ?_ (by omega) | exact ex_lt (by with_reducible assumption) | rw [List.length_set] | assumption)) (by rfl) ?_
    refine ew_iload_n (M := mX6_speckle) dX6_speckle_62 rfl ?_
    refine ew_iload_n (M := mX6_speckle) dX6_speckle_63 rfl ?_
    refine ew_iload (M := mX6_speckle) dX6_speckle_64 rfl ?_
    refine ew_callV (M := mX6_speckle) dX6_speckle_66 vX6_49 (by repeat (first | with_reducible assumption | refine ex_eq ?_ | refine ex_ne ?_ (by omega) | exact ex_lt (by with_reducible assumption) | rw [List.length_set] | assumption)) rfl (sp_setGrey (p := s + 1) (w := w) (h := h) (g := g) (m := m) (v := 0) (h4.ch (L := [s]) (((ex_ch.rf.set (by simp <;> omega)).set (by simp <;> omega)).set (by simp <;> omega)) (by simp <;> omega) (by simp <;> omega) (by simp <;> omega)) (dr_lt (by omega)) (dr_lt (by omega)) (by decide)) rfl (Nat.le_of_ble_eq_true rfl) ⟨Nat.le_refl _, Nat.le_refl _⟩ rfl (fun H66 r66 q66 => ?_)
    obtain ⟨rfl, hc9, hp9⟩ := q66
    refine ew_vret (M := mX6_speckle) dX6_speckle_69 rfl (Nat.le_refl _) (Nat.le_refl _) ?_
    rw [spk, if_pos k0]
    refine ⟨rfl, ((((ex_ch.rf.set (by simp <;> omega)).set (by simp <;> omega)).set (by simp <;> omega)) : ex_ch H _ [s, s + 2]).tr hc9 (by simp <;> omega), hc9.at (ex_eq (by rw [List.length_set]; rw [List.length_set]; exact ex_lt h1)) (by simp <;> omega), h2, sn_lt _, hp9, ?_⟩
    exact (h5.ch (L := [s]) (((ex_ch.rf.set (by simp <;> omega)).set (by simp <;> omega)).set (by simp <;> omega)) (by simp <;> omega) (by simp <;> omega) (by simp <;> omega)).ch hc9 (by simp <;> omega) (by simp <;> omega) (by simp <;> omega)
  · by_cases k1 : dr (sn (sn sd)) 3 = 1
    · refine ew_aload_n (M := mX6_speckle) dX6_speckle_0 rfl (Or.inr (Or.inl ⟨_, rfl⟩)) ?_
      refine ew_aload_n (M := mX6_speckle) dX6_speckle_1 rfl (Or.inr (Or.inl ⟨_, rfl⟩)) ?_
      refine ew_get (M := mX6_speckle) dX6_speckle_2 fX6_12 (by repeat (first | with_reducible assumption | refine ex_eq ?_ | refine ex_ne ?_ (by omega) | exact ex_lt (by with_reducible assumption) | rw [List.length_set] | assumption)) (by rfl) ?_
      refine ew_get (M := mX6_speckle) dX6_speckle_5 fX6_39 (by repeat (first | with_reducible assumption | refine ex_eq ?_ | refine ex_ne ?_ (by omega) | exact ex_lt (by with_reducible assumption) | rw [List.length_set] | assumption)) (by rfl) ?_
      refine ew_callV (M := mX6_speckle) dX6_speckle_8 vX6_42 (by repeat (first | with_reducible assumption | refine ex_eq ?_ | refine ex_ne ?_ (by omega) | exact ex_lt (by with_reducible assumption) | rw [List.length_set] | assumption)) rfl (sp_draw (s := s) (sd := sd) (a := .ref (s + 1)) (b := .ref (s + 4)) (c := .int (nI fi)) (by repeat (first | with_reducible assumption | refine ex_eq ?_ | refine ex_ne ?_ (by omega) | exact ex_lt (by with_reducible assumption) | rw [List.length_set] | assumption)) h3 (by omega) (by omega)) rfl (Nat.le_of_ble_eq_true rfl) ⟨Nat.le_refl _, Nat.le_refl _⟩ rfl (fun H8 r8 q8 => ?_)
      obtain ⟨rfl, rfl⟩ := q8
      refine ew_istore_n (M := mX6_speckle) dX6_speckle_11 (by decide) rfl ?_
      refine ew_aload_n (M := mX6_speckle) dX6_speckle_12 rfl (Or.inr (Or.inl ⟨_, rfl⟩)) ?_
      refine ew_aload_n (M := mX6_speckle) dX6_speckle_13 rfl (Or.inr (Or.inl ⟨_, rfl⟩)) ?_
      refine ew_get (M := mX6_speckle) dX6_speckle_14 fX6_12 (by repeat (first | with_reducible assumption | refine ex_eq ?_ | refine ex_ne ?_ (by omega) | exact ex_lt (by with_reducible assumption) | rw [List.length_set] | assumption)) (by rfl) ?_
      refine ew_get (M := mX6_speckle) dX6_speckle_17 fX6_46 (by repeat (first | with_reducible assumption | refine ex_eq ?_ | refine ex_ne ?_ (by omega) | exact ex_lt (by with_reducible assumption) | rw [List.length_set] | assumption)) (by rfl) ?_
      refine ew_callV (M := mX6_speckle) dX6_speckle_20 vX6_42 (by repeat (first | with_reducible assumption | refine ex_eq ?_ | refine ex_ne ?_ (by omega) | exact ex_lt (by with_reducible assumption) | rw [List.length_set] | assumption)) rfl (sp_draw (s := s) (sd := sn sd) (a := .ref (s + 1)) (b := .ref (s + 4)) (c := .int (nI fi)) (by repeat (first | with_reducible assumption | refine ex_eq ?_ | refine ex_ne ?_ (by omega) | exact ex_lt (by with_reducible assumption) | rw [List.length_set] | assumption)) l1 (by omega) (by omega)) rfl (Nat.le_of_ble_eq_true rfl) ⟨Nat.le_refl _, Nat.le_refl _⟩ rfl (fun H20 r20 q20 => ?_)
      obtain ⟨rfl, rfl⟩ := q20
      refine ew_istore_n (M := mX6_speckle) dX6_speckle_23 (by decide) rfl ?_
      refine ew_aload_n (M := mX6_speckle) dX6_speckle_24 rfl (Or.inr (Or.inl ⟨_, rfl⟩)) ?_
      refine ew_iconst (M := mX6_speckle) dX6_speckle_25 (v := nI 3) (by decide) ?_
      refine ew_callV (M := mX6_speckle) dX6_speckle_26 vX6_42 (by repeat (first | with_reducible assumption | refine ex_eq ?_ | refine ex_ne ?_ (by omega) | exact ex_lt (by with_reducible assumption) | rw [List.length_set] | assumption)) rfl (sp_draw (s := s) (sd := sn (sn sd)) (a := .ref (s + 1)) (b := .ref (s + 4)) (c := .int (nI fi)) (by repeat (first | with_reducible assumption | refine ex_eq ?_ | refine ex_ne ?_ (by omega) | exact ex_lt (by with_reducible assumption) | rw [List.length_set] | assumption)) l2 (by decide) (by omega)) rfl (Nat.le_of_ble_eq_true rfl) ⟨Nat.le_refl _, Nat.le_refl _⟩ rfl (fun H26 r26 q26 => ?_)
      obtain ⟨rfl, rfl⟩ := q26
      refine ew_istore_n (M := mX6_speckle) dX6_speckle_29 (by decide) rfl ?_
      refine ew_iload_n (M := mX6_speckle) dX6_speckle_30 rfl ?_
      refine ew_if_ne (M := mX6_speckle) (tgt := 38) dX6_speckle_31 rfl (fun _ => ?_) (fun h => absurd h (by rw [k1]; decide))
      refine ew_iload_n (M := mX6_speckle) dX6_speckle_38 rfl ?_
      refine ew_iconst (M := mX6_speckle) dX6_speckle_39 (v := nI 1) (by decide) ?_
      refine ew_icmp_ne (M := mX6_speckle) (tgt := 49) dX6_speckle_40 rfl (fun h => absurd (by rw [k1]) h) (fun _ => ?_)
      refine ew_sipush (M := mX6_speckle) dX6_speckle_43 (v := nI 255) (by decide) ?_
      refine ew_goto (M := mX6_speckle) (tgt := 56) dX6_speckle_46 rfl ?_
      refine ew_istore (M := mX6_speckle) dX6_speckle_56 (by decide) rfl ?_
      refine ew_aload_n (M := mX6_speckle) dX6_speckle_58 rfl (Or.inr (Or.inl ⟨_, rfl⟩)) ?_
      refine ew_get (M := mX6_speckle) dX6_speckle_59 fX6_12 (by repeat (first | with_reducible assumption | refine ex_eq ?_ | refine ex_ne ?_ (by omega) | exact ex_lt (by with_reducible assumption) | rw [List.length_set] | assumption)) (by rfl) ?_
      refine ew_iload_n (M := mX6_speckle) dX6_speckle_62 rfl ?_
      refine ew_iload_n (M := mX6_speckle) dX6_speckle_63 rfl ?_
      refine ew_iload (M := mX6_speckle) dX6_speckle_64 rfl ?_
      refine ew_callV (M := mX6_speckle) dX6_speckle_66 vX6_49 (by repeat (first | with_reducible assumption | refine ex_eq ?_ | refine ex_ne ?_ (by omega) | exact ex_lt (by with_reducible assumption) | rw [List.length_set] | assumption)) rfl (sp_setGrey (p := s + 1) (w := w) (h := h) (g := g) (m := m) (v := 255) (h4.ch (L := [s]) (((ex_ch.rf.set (by simp <;> omega)).set (by simp <;> omega)).set (by simp <;> omega)) (by simp <;> omega) (by simp <;> omega) (by simp <;> omega)) (dr_lt (by omega)) (dr_lt (by omega)) (by decide)) rfl (Nat.le_of_ble_eq_true rfl) ⟨Nat.le_refl _, Nat.le_refl _⟩ rfl (fun H66 r66 q66 => ?_)
      obtain ⟨rfl, hc9, hp9⟩ := q66
      refine ew_vret (M := mX6_speckle) dX6_speckle_69 rfl (Nat.le_refl _) (Nat.le_refl _) ?_
      rw [spk, if_neg k0, if_pos k1]
      refine ⟨rfl, ((((ex_ch.rf.set (by simp <;> omega)).set (by simp <;> omega)).set (by simp <;> omega)) : ex_ch H _ [s, s + 2]).tr hc9 (by simp <;> omega), hc9.at (ex_eq (by rw [List.length_set]; rw [List.length_set]; exact ex_lt h1)) (by simp <;> omega), h2, sn_lt _, hp9, ?_⟩
      exact (h5.ch (L := [s]) (((ex_ch.rf.set (by simp <;> omega)).set (by simp <;> omega)).set (by simp <;> omega)) (by simp <;> omega) (by simp <;> omega) (by simp <;> omega)).ch hc9 (by simp <;> omega) (by simp <;> omega) (by simp <;> omega)
    · have k3 : dr (sn (sn sd)) 3 < 3 := dr_lt (by decide)
      refine ew_aload_n (M := mX6_speckle) dX6_speckle_0 rfl (Or.inr (Or.inl ⟨_, rfl⟩)) ?_
      refine ew_aload_n (M := mX6_speckle) dX6_speckle_1 rfl (Or.inr (Or.inl ⟨_, rfl⟩)) ?_
      refine ew_get (M := mX6_speckle) dX6_speckle_2 fX6_12 (by repeat (first | with_reducible assumption | refine ex_eq ?_ | refine ex_ne ?_ (by omega) | exact ex_lt (by with_reducible assumption) | rw [List.length_set] | assumption)) (by rfl) ?_
      refine ew_get (M := mX6_speckle) dX6_speckle_5 fX6_39 (by repeat (first | with_reducible assumption | refine ex_eq ?_ | refine ex_ne ?_ (by omega) | exact ex_lt (by with_reducible assumption) | rw [List.length_set] | assumption)) (by rfl) ?_
      refine ew_callV (M := mX6_speckle) dX6_speckle_8 vX6_42 (by repeat (first | with_reducible assumption | refine ex_eq ?_ | refine ex_ne ?_ (by omega) | exact ex_lt (by with_reducible assumption) | rw [List.length_set] | assumption)) rfl (sp_draw (s := s) (sd := sd) (a := .ref (s + 1)) (b := .ref (s + 4)) (c := .int (nI fi)) (by repeat (first | with_reducible assumption | refine ex_eq ?_ | refine ex_ne ?_ (by omega) | exact ex_lt (by with_reducible assumption) | rw [List.length_set] | assumption)) h3 (by omega) (by omega)) rfl (Nat.le_of_ble_eq_true rfl) ⟨Nat.le_refl _, Nat.le_refl _⟩ rfl (fun H8 r8 q8 => ?_)
      obtain ⟨rfl, rfl⟩ := q8
      refine ew_istore_n (M := mX6_speckle) dX6_speckle_11 (by decide) rfl ?_
      refine ew_aload_n (M := mX6_speckle) dX6_speckle_12 rfl (Or.inr (Or.inl ⟨_, rfl⟩)) ?_
      refine ew_aload_n (M := mX6_speckle) dX6_speckle_13 rfl (Or.inr (Or.inl ⟨_, rfl⟩)) ?_
      refine ew_get (M := mX6_speckle) dX6_speckle_14 fX6_12 (by repeat (first | with_reducible assumption | refine ex_eq ?_ | refine ex_ne ?_ (by omega) | exact ex_lt (by with_reducible assumption) | rw [List.length_set] | assumption)) (by rfl) ?_
      refine ew_get (M := mX6_speckle) dX6_speckle_17 fX6_46 (by repeat (first | with_reducible assumption | refine ex_eq ?_ | refine ex_ne ?_ (by omega) | exact ex_lt (by with_reducible assumption) | rw [List.length_set] | assumption)) (by rfl) ?_
      refine ew_callV (M := mX6_speckle) dX6_speckle_20 vX6_42 (by repeat (first | with_reducible assumption | refine ex_eq ?_ | refine ex_ne ?_ (by omega) | exact ex_lt (by with_reducible assumption) | rw [List.length_set] | assumption)) rfl (sp_draw (s := s) (sd := sn sd) (a := .ref (s + 1)) (b := .ref (s + 4)) (c := .int (nI fi)) (by repeat (first | with_reducible assumption | refine ex_eq ?_ | refine ex_ne ?_ (by omega) | exact ex_lt (by with_reducible assumption) | rw [List.length_set] | assumption)) l1 (by omega) (by omega)) rfl (Nat.le_of_ble_eq_true rfl) ⟨Nat.le_refl _, Nat.le_refl _⟩ rfl (fun H20 r20 q20 => ?_)
      obtain ⟨rfl, rfl⟩ := q20
      refine ew_istore_n (M := mX6_speckle) dX6_speckle_23 (by decide) rfl ?_
      refine ew_aload_n (M := mX6_speckle) dX6_speckle_24 rfl (Or.inr (Or.inl ⟨_, rfl⟩)) ?_
      refine ew_iconst (M := mX6_speckle) dX6_speckle_25 (v := nI 3) (by decide) ?_
      refine ew_callV (M := mX6_speckle) dX6_speckle_26 vX6_42 (by repeat (first | with_reducible assumption | refine ex_eq ?_ | refine ex_ne ?_ (by omega) | exact ex_lt (by with_reducible assumption) | rw [List.length_set] | assumption)) rfl (sp_draw (s := s) (sd := sn (sn sd)) (a := .ref (s + 1)) (b := .ref (s + 4)) (c := .int (nI fi)) (by repeat (first | with_reducible assumption | refine ex_eq ?_ | refine ex_ne ?_ (by omega) | exact ex_lt (by with_reducible assumption) | rw [List.length_set] | assumption)) l2 (by decide) (by omega)) rfl (Nat.le_of_ble_eq_true rfl) ⟨Nat.le_refl _, Nat.le_refl _⟩ rfl (fun H26 r26 q26 => ?_)
      obtain ⟨rfl, rfl⟩ := q26
      refine ew_istore_n (M := mX6_speckle) dX6_speckle_29 (by decide) rfl ?_
      refine ew_iload_n (M := mX6_speckle) dX6_speckle_30 rfl ?_
      refine ew_if_ne (M := mX6_speckle) (tgt := 38) dX6_speckle_31 rfl (fun _ => ?_) (fun h => absurd h (nI_n0 (by omega) (by omega)))
      refine ew_iload_n (M := mX6_speckle) dX6_speckle_38 rfl ?_
      refine ew_iconst (M := mX6_speckle) dX6_speckle_39 (v := nI 1) (by decide) ?_
      refine ew_icmp_ne (M := mX6_speckle) (tgt := 49) dX6_speckle_40 rfl (fun _ => ?_) (fun h => absurd h (fun e => k1 ((nI_eq (by omega) (by decide)).mp e)))
      refine ew_aload_n (M := mX6_speckle) dX6_speckle_49 rfl (Or.inr (Or.inl ⟨_, rfl⟩)) ?_
      refine ew_sipush (M := mX6_speckle) dX6_speckle_50 (v := nI 256) (by decide) ?_
      refine ew_callV (M := mX6_speckle) dX6_speckle_53 vX6_42 (by repeat (first | with_reducible assumption | refine ex_eq ?_ | refine ex_ne ?_ (by omega) | exact ex_lt (by with_reducible assumption) | rw [List.length_set] | assumption)) rfl (sp_draw (s := s) (sd := sn (sn (sn sd))) (a := .ref (s + 1)) (b := .ref (s + 4)) (c := .int (nI fi)) (by repeat (first | with_reducible assumption | refine ex_eq ?_ | refine ex_ne ?_ (by omega) | exact ex_lt (by with_reducible assumption) | rw [List.length_set] | assumption)) l3 (by decide) (by omega)) rfl (Nat.le_of_ble_eq_true rfl) ⟨Nat.le_refl _, Nat.le_refl _⟩ rfl (fun H53 r53 q53 => ?_)
      obtain ⟨rfl, rfl⟩ := q53
      refine ew_istore (M := mX6_speckle) dX6_speckle_56 (by decide) rfl ?_
      refine ew_aload_n (M := mX6_speckle) dX6_speckle_58 rfl (Or.inr (Or.inl ⟨_, rfl⟩)) ?_
      refine ew_get (M := mX6_speckle) dX6_speckle_59 fX6_12 (by repeat (first | with_reducible assumption | refine ex_eq ?_ | refine ex_ne ?_ (by omega) | exact ex_lt (by with_reducible assumption) | rw [List.length_set] | assumption)) (by rfl) ?_
      refine ew_iload_n (M := mX6_speckle) dX6_speckle_62 rfl ?_
      refine ew_iload_n (M := mX6_speckle) dX6_speckle_63 rfl ?_
      refine ew_iload (M := mX6_speckle) dX6_speckle_64 rfl ?_
      refine ew_callV (M := mX6_speckle) dX6_speckle_66 vX6_49 (by repeat (first | with_reducible assumption | refine ex_eq ?_ | refine ex_ne ?_ (by omega) | exact ex_lt (by with_reducible assumption) | rw [List.length_set] | assumption)) rfl (sp_setGrey (p := s + 1) (w := w) (h := h) (g := g) (m := m) (v := dr (sn (sn (sn sd))) 256) (h4.ch (L := [s]) ((((ex_ch.rf.set (by simp <;> omega)).set (by simp <;> omega)).set (by simp <;> omega)).set (by simp <;> omega)) (by simp <;> omega) (by simp <;> omega) (by simp <;> omega)) (dr_lt (by omega)) (dr_lt (by omega)) (dr_lt (by decide))) rfl (Nat.le_of_ble_eq_true rfl) ⟨Nat.le_refl _, Nat.le_refl _⟩ rfl (fun H66 r66 q66 => ?_)
      obtain ⟨rfl, hc9, hp9⟩ := q66
      refine ew_vret (M := mX6_speckle) dX6_speckle_69 rfl (Nat.le_refl _) (Nat.le_refl _) ?_
      rw [spk, if_neg k0, if_neg k1]
      refine ⟨rfl, (((((ex_ch.rf.set (by simp <;> omega)).set (by simp <;> omega)).set (by simp <;> omega)).set (by simp <;> omega)) : ex_ch H _ [s, s + 2]).tr hc9 (by simp <;> omega), hc9.at (ex_eq (by rw [List.length_set]; rw [List.length_set]; rw [List.length_set]; exact ex_lt h1)) (by simp <;> omega), h2, sn_lt _, hp9, ?_⟩
      exact (h5.ch (L := [s]) ((((ex_ch.rf.set (by simp <;> omega)).set (by simp <;> omega)).set (by simp <;> omega)).set (by simp <;> omega)) (by simp <;> omega) (by simp <;> omega) (by simp <;> omega)).ch hc9 (by simp <;> omega) (by simp <;> omega) (by simp <;> omega)
theorem sp_sbecome {d : Nat} {H : ex_H} {s s2 : Nat} {z z2 : ST} (hs : st_is H s z) (hs2 : st_is H s2 z2) (hss : s + 5 < s2 ∨ s2 + 5 < s) (hs0 : s + 5 < 98) (hs20 : s2 + 5 < 98) : ex_Met mX6_become (d + 3) 0 0 H [.ref s, .ref s2] (fun H' r => r = none ∧ ex_ch H H' [s, s + 1, s + 2, s + 3, s + 4, s + 5] ∧ st_is H' s z2) := by
  obtain ⟨h1, h2, h3, h4, h5⟩ := id hs
  obtain ⟨k1, k2, k3, k4, k5⟩ := id hs2
  obtain ⟨w0, h0, gs, ms, hp0⟩ := h4.any
  obtain ⟨hp1, hp2, hp3⟩ := id hp0
  obtain ⟨f1, f2, f3⟩ := id h5
  obtain ⟨j1, j2, j3⟩ := id k5
  refine ex_meth [(0, .ref s), (1, .ref s2)] rfl rfl rfl (fun b => Nat.le_of_ble_eq_true rfl) ?_
  refine ew_aload_n (M := mX6_become) dX6_become_0 rfl (Or.inr (Or.inl ⟨_, rfl⟩)) ?_
  refine ew_get (M := mX6_become) dX6_become_1 fX6_12 (by repeat (first | with_reducible assumption | refine ex_eq ?_ | refine ex_ne ?_ (by omega) | exact ex_lt (by with_reducible assumption) | rw [List.length_set] | assumption)) (by rfl) ?_
  refine ew_aload_n (M := mX6_become) dX6_become_4 rfl (Or.inr (Or.inl ⟨_, rfl⟩)) ?_
  refine ew_get (M := mX6_become) dX6_become_5 fX6_12 (by repeat (first | with_reducible assumption | refine ex_eq ?_ | refine ex_ne ?_ (by omega) | exact ex_lt (by with_reducible assumption) | rw [List.length_set] | assumption)) (by rfl) ?_
  refine ew_callV (M := mX6_become) dX6_become_8 vX6_32 (by repeat (first | with_reducible assumption | refine ex_eq ?_ | refine ex_ne ?_ (by omega) | exact ex_lt (by with_reducible assumption) | rw [List.length_set] | assumption)) rfl (sp_become hp0 k4 (by omega)) rfl (Nat.le_of_ble_eq_true rfl) ⟨Nat.le_refl _, Nat.le_refl _⟩ rfl (fun H8 r8 q8 => ?_)
  obtain ⟨rfl, hc1, hp9⟩ := q8
  have h11 := hc1.at h1 (by simp <;> omega)
  have k11 := hc1.at k1 (by simp <;> omega)
  have h51 := h5.ch hc1 (by simp <;> omega) (by simp <;> omega) (by simp <;> omega)
  have k51 := k5.ch hc1 (by simp <;> omega) (by simp <;> omega) (by simp <;> omega)
  obtain ⟨f11, f21, f31⟩ := id h51
  refine ew_aload_n (M := mX6_become) dX6_become_11 rfl (Or.inr (Or.inl ⟨_, rfl⟩)) ?_
  refine ew_get (M := mX6_become) dX6_become_12 fX6_21 (by repeat (first | with_reducible assumption | refine ex_eq ?_ | refine ex_ne ?_ (by omega) | exact ex_lt (by with_reducible assumption) | rw [List.length_set] | assumption)) (by rfl) ?_
  refine ew_aload_n (M := mX6_become) dX6_become_15 rfl (Or.inr (Or.inl ⟨_, rfl⟩)) ?_
  refine ew_get (M := mX6_become) dX6_become_16 fX6_21 (by repeat (first | with_reducible assumption | refine ex_eq ?_ | refine ex_ne ?_ (by omega) | exact ex_lt (by with_reducible assumption) | rw [List.length_set] | assumption)) (by rfl) ?_
  refine ew_callV (M := mX6_become) dX6_become_19 vX6_36 (by repeat (first | with_reducible assumption | refine ex_eq ?_ | refine ex_ne ?_ (by omega) | exact ex_lt (by with_reducible assumption) | rw [List.length_set] | assumption)) rfl (sp_fbecome h51 k51 (by omega) (by omega)) rfl (Nat.le_of_ble_eq_true rfl) ⟨Nat.le_refl _, Nat.le_refl _⟩ rfl (fun H19 r19 q19 => ?_)
  obtain ⟨rfl, hc2, hf9⟩ := q19
  have h12 := hc2.at h11 (by simp <;> omega)
  have k12 := hc2.at k11 (by simp <;> omega)
  have hp99 := pis.ch hc2 hp9 (by simp <;> omega) (by simp <;> omega) (by simp <;> omega)
  refine ew_aload_n (M := mX6_become) dX6_become_22 rfl (Or.inr (Or.inl ⟨_, rfl⟩)) ?_
  refine ew_aload_n (M := mX6_become) dX6_become_23 rfl (Or.inr (Or.inl ⟨_, rfl⟩)) ?_
  refine ew_get (M := mX6_become) dX6_become_24 fX6_25 (by repeat (first | with_reducible assumption | refine ex_eq ?_ | refine ex_ne ?_ (by omega) | exact ex_lt (by with_reducible assumption) | rw [List.length_set] | assumption)) (by rfl) ?_
  refine ew_put (M := mX6_become) dX6_become_27 fX6_25 (by repeat (first | with_reducible assumption | refine ex_eq ?_ | refine ex_ne ?_ (by omega) | exact ex_lt (by with_reducible assumption) | rw [List.length_set] | assumption)) (by exact Nat.le_of_ble_eq_true rfl) ⟨rfl, rfl, fun _ h => by cases h⟩ ?_
  refine ew_aload_n (M := mX6_become) dX6_become_30 rfl (Or.inr (Or.inl ⟨_, rfl⟩)) ?_
  refine ew_aload_n (M := mX6_become) dX6_become_31 rfl (Or.inr (Or.inl ⟨_, rfl⟩)) ?_
  refine ew_get (M := mX6_become) dX6_become_32 fX6_29 (by repeat (first | with_reducible assumption | refine ex_eq ?_ | refine ex_ne ?_ (by omega) | exact ex_lt (by with_reducible assumption) | rw [List.length_set] | assumption)) (by rfl) ?_
  refine ew_put (M := mX6_become) dX6_become_35 fX6_29 (by repeat (first | with_reducible assumption | refine ex_eq ?_ | refine ex_ne ?_ (by omega) | exact ex_lt (by with_reducible assumption) | rw [List.length_set] | assumption)) (by exact Nat.le_of_ble_eq_true rfl) ⟨rfl, rfl, fun _ h => by cases h⟩ ?_
  refine ew_vret (M := mX6_become) dX6_become_38 rfl (Nat.le_refl _) (Nat.le_refl _) ?_
  refine ⟨rfl, (((hc1.sub (by simp <;> omega)).tr hc2 (by simp <;> omega)).set (by simp <;> omega)).set (by simp <;> omega), ex_eq (by rw [List.length_set]; exact ex_lt h12), k2, k3, ?_, ?_⟩
  · exact (hp99.ch (L := [s]) (ex_ch.rf.set (by simp <;> omega)) (by simp <;> omega) (by simp <;> omega) (by simp <;> omega)).ch (L := [s]) (ex_ch.rf.set (by simp <;> omega)) (by simp <;> omega) (by simp <;> omega) (by simp <;> omega)
  · exact (hf9.ch (L := [s]) (ex_ch.rf.set (by simp <;> omega)) (by simp <;> omega) (by simp <;> omega) (by simp <;> omega)).ch (L := [s]) (ex_ch.rf.set (by simp <;> omega)) (by simp <;> omega) (by simp <;> omega) (by simp <;> omega)
