theorem fl_id {σ : Type} {F : Nat → σ → σ} {n : Nat} (h : ∀ i s, i < n → F i s = s) (s : σ) : fl F n s = s := by
  induction n with
  | zero => rfl
  | succ n ih => show F n (fl F n s) = s; rw [ih (fun i s hi => h i s (by omega)), h n s (by omega)]
theorem gother_z {w h : Nat} {g g2 : Nat → Nat} (e : pm_gother w h g g2 = 0) : ∀ k, k < w * h → g k = g2 k := by
  have key : ∀ n, fl (fun k n => if g k = g2 k then n else n + 1) n 0 = 0 → ∀ k, k < n → g k = g2 k := by
    intro n
    induction n with
    | zero => intro _ k hk; omega
    | succ n ih =>
      intro e k hk
      have e1 : (if g n = g2 n then fl (fun k n => if g k = g2 k then n else n + 1) n 0 else fl (fun k n => if g k = g2 k then n else n + 1) n 0 + 1) = 0 := e
      by_cases c : g n = g2 n
      · rw [if_pos c] at e1
        by_cases hkn : k = n
        · rw [hkn]; exact c
        · exact ih e1 k (by omega)
      · rw [if_neg c] at e1
        omega
  exact key _ e
theorem gother_0 {w h : Nat} {g g2 : Nat → Nat} (e : ∀ k, k < w * h → g k = g2 k) : pm_gother w h g g2 = 0 :=
  fl_id (fun i s hi => if_pos (e i hi)) 0
def f80 (w h : Nat) (A g : Nat → Nat) (q n : Nat) : Nat := if q % 10 < w ∧ q / 10 < h then (if A (q / 10 * w + q % 10) = g (q / 10 * w + q % 10) then n else n + 1) else n
theorem f80_eq {w h : Nat} {A g : Nat → Nat} (hw : w ≤ 10) (hh : h ≤ 8) : fl (f80 w h A g) 80 0 = pm_gother w h A g := by
  have hm : ∀ j i, i < 10 → (j * 10 + i) % 10 = i ∧ (j * 10 + i) / 10 = j := fun j i hi => by omega
  unfold pm_gother
  rw [fl_rows, show (80 : Nat) = 10 * 8 from rfl, fl_rows, show (8 : Nat) = h + (8 - h) by omega, fl_add]
  rw [fl_id (F := fun i => (fun j s => fl (fun i => f80 w h A g (j * 10 + i)) 10 s) (h + i)) (fun j s hj => fl_id (fun i s hi => by
    show (if _ ∧ _ then _ else s) = s
    rw [(hm (h + j) i hi).1, (hm (h + j) i hi).2, if_neg (by omega)]) s)]
  refine fl_congr (fun j s hj => ?_) 0
  rw [show (10 : Nat) = w + (10 - w) by omega, fl_add]
  rw [fl_id (F := fun i => (fun i => f80 w h A g (j * (w + (10 - w)) + i)) (w + i)) (fun i s hi => by
    rw [show w + (10 - w) = 10 by omega]
    show (if _ ∧ _ then _ else s) = s
    rw [(hm j (w + i) (by omega)).1, (hm j (w + i) (by omega)).2, if_neg (by omega)])]
  refine fl_congr (fun i s hi => ?_) s
  rw [show w + (10 - w) = 10 by omega]
  show (if _ ∧ _ then _ else s) = _
  rw [(hm j i (by omega)).1, (hm j i (by omega)).2, if_pos ⟨hi, hj⟩]
theorem alP_s (F : Nat → FV) (fi t : Nat) (P : PT) : alP F fi (t + 1) P = apP (alP F fi t P) (F t) fi := rfl
theorem ms_all {d : Nat} {H : ex_H} {S : SS} (hS : mo_is H S) : ex_Met mX10_all (d + 7) 0 0 H [.ref 86] (fun H' r => r = some (.int (f_all S).1) ∧ ex_ch H H' mL ∧ mo_is H' (f_all S).2) := by
  obtain ⟨R, mn, C, N, hS⟩ := hS
  obtain ⟨a1, ⟨hfi, hsd, hkp⟩, ⟨W, a2, hw0, ⟨hcn, hwh⟩, hwi⟩, ⟨T, a3, htn, htx⟩, ⟨F, a4, hfl⟩, ⟨IF, IL, IS, a5, a6, a7, him⟩, ⟨BX, BY, BG, a8, a9, a10, hbn, hbk⟩, a11, a12⟩ := id hS
  obtain ⟨⟨⟨hz1, hz2, hz3, hz4⟩, hgm⟩, hW0, hW1, hWd⟩ := id hw0
  have h6 : S.2.2.1.2.1.1 ≤ 6 := hfl.1
  have hF0 : F 0 = nI S.2.2.1.2.1.1 := hfl.2.1
  by_cases hx : S.2.2.1.2.1.1 = 0
  · have ef : f_all S = (-1000000003, S) := by
      unfold f_all
      rw [cif_y hx]
    refine ex_meth [(0, .ref 86)] rfl rfl rfl (fun b => Nat.le_of_ble_eq_true rfl) ?_
    refine ew_aload_n (M := mX10_all) dX10_all_0 rfl (Or.inr (Or.inl ⟨_, rfl⟩)) ?_
    refine ew_get (M := mX10_all) dX10_all_1 fX10_20 (by repeat (first | with_reducible assumption | refine ex_eq ?_ | refine ex_ne ?_ (by omega) | exact ex_lt (by with_reducible assumption) | rw [List.length_set] | assumption)) (by rfl) ?_
    refine ew_iconst (M := mX10_all) dX10_all_4 (v := nI 0) (by decide) ?_
    refine ew_iald (M := mX10_all) 0 dX10_all_5 (by repeat (first | with_reducible assumption | refine ex_eq ?_ | refine ex_ne ?_ (by omega) | exact ex_lt (by with_reducible assumption) | rw [List.length_set] | assumption)) ⟨rfl, by decide, by decide⟩ ?_
    rw [hF0, hx]
    refine ew_if_ne (M := mX10_all) (tgt := 12) dX10_all_6 rfl (fun h => absurd rfl h) (fun _ => ?_)
    refine ew_ldc (M := mX10_all) dX10_all_9 kX10_195 ?_
    refine ew_iret (M := mX10_all) dX10_all_11 rfl (by first | rfl | decide) (Nat.le_refl _) (Nat.le_refl _) ?_
    exact ⟨by rw [ef], ex_ch.rf, by rw [ef]; exact ⟨_, _, _, _, hS⟩⟩
  · have ef : f_all S = (nI (pm_gother S.2.2.1.1.1 S.2.2.1.1.2.1 (alP S.2.2.1.2.1.2 S.2.2.1.2.2.1 S.2.2.1.2.1.1 S.2.2.1.1).2.2.1 S.2.2.1.1.2.2.1), deed S (alP S.2.2.1.2.1.2 S.2.2.1.2.2.1 S.2.2.1.2.1.1 S.2.2.1.1)) := by
      unfold f_all
      rw [cif_n hx]
    rw [ef]
    refine ex_meth [(0, .ref 86)] rfl rfl rfl (fun b => Nat.le_of_ble_eq_true rfl) ?_
    refine ew_aload_n (M := mX10_all) dX10_all_0 rfl (Or.inr (Or.inl ⟨_, rfl⟩)) ?_
    refine ew_get (M := mX10_all) dX10_all_1 fX10_20 (by repeat (first | with_reducible assumption | refine ex_eq ?_ | refine ex_ne ?_ (by omega) | exact ex_lt (by with_reducible assumption) | rw [List.length_set] | assumption)) (by rfl) ?_
    refine ew_iconst (M := mX10_all) dX10_all_4 (v := nI 0) (by decide) ?_
    refine ew_iald (M := mX10_all) 0 dX10_all_5 (by repeat (first | with_reducible assumption | refine ex_eq ?_ | refine ex_ne ?_ (by omega) | exact ex_lt (by with_reducible assumption) | rw [List.length_set] | assumption)) ⟨rfl, by decide, by decide⟩ ?_
    rw [hF0]
    refine ew_if_ne (M := mX10_all) (tgt := 12) dX10_all_6 rfl (fun _ => ?_) (fun h => absurd h (nI_n0 (by omega) (by omega)))
    refine ew_aload_n (M := mX10_all) dX10_all_12 rfl (Or.inr (Or.inl ⟨_, rfl⟩)) ?_
    refine ew_callV (M := mX10_all) dX10_all_13 vX10_115 (by repeat (first | with_reducible assumption | refine ex_eq ?_ | refine ex_ne ?_ (by omega) | exact ex_lt (by with_reducible assumption) | rw [List.length_set] | assumption)) rfl (ms_remember hS) rfl (Nat.le_of_ble_eq_true rfl) ⟨Nat.le_refl _, Nat.le_refl _⟩ rfl (fun H13 r13 q13 => ?_)
    obtain ⟨rfl, hc1, hS1⟩ := q13
    refine ew_iconst (M := mX10_all) dX10_all_16 (v := nI 0) (by decide) ?_
    refine ew_istore_n (M := mX10_all) dX10_all_17 (by decide) rfl ?_
    refine ew_iconst (M := mX10_all) dX10_all_18 (v := nI 0) (by decide) ?_
    refine ew_istore_n (M := mX10_all) dX10_all_19 (by decide) rfl ?_
    refine ew_ls [(0, .ref 86), (1, .int (nI 0)), (2, .int (nI 0))] ⟨rfl, rfl, rfl, trivial⟩ ?_
    refine nat_down (P := fun t => ∀ (H2 : ex_H) (m2 : Int32) (C2 N2 : Nat → Int32) (ch : Nat), ex_ch H H2 mL → mo_at H2 (deed S (alP S.2.2.1.2.1.2 S.2.2.1.2.2.1 t S.2.2.1.1)) R m2 C2 N2 → (ch = 0 → ∀ k, k < S.2.2.1.1.1 * S.2.2.1.1.2.1 → (alP S.2.2.1.2.1.2 S.2.2.1.2.2.1 t S.2.2.1.1).2.2.1 k = S.2.2.1.1.2.2.1 k) → ch ≤ 80 * t → ex_W mX10_all (d + 7) 0 0 _ H2 20 [(0, .ref 86), (1, .int (nI ch)), (2, .int (nI t))] [] 0 0) S.2.2.1.2.1.1 (fun t ht k => ?_) ?_ H13 mn C N 0 (hc1.sub (mL_sub (by decide))) hS1 (fun _ k _ => rfl) (by omega)
    · intro H2 m2 C2 N2 ch hc2 hS2 hz2' hch
      obtain ⟨b1, -, ⟨W2, b2, bw0, ⟨-, bwh⟩, -⟩, -, ⟨F2, b4, bfl⟩, -⟩ := id hS2
      have F20 : F2 0 = nI S.2.2.1.2.1.1 := bfl.2.1
      obtain ⟨s1, s2, s3⟩ := alP_sh S.2.2.1.2.1.2 S.2.2.1.2.2.1 t S.2.2.1.1
      have hle := gother_le (alP S.2.2.1.2.1.2 S.2.2.1.2.2.1 t S.2.2.1.1).1 (alP S.2.2.1.2.1.2 S.2.2.1.2.2.1 t S.2.2.1.1).2.1 (alP S.2.2.1.2.1.2 S.2.2.1.2.2.1 t S.2.2.1.1).2.2.1 (apG (alP S.2.2.1.2.1.2 S.2.2.1.2.2.1 t S.2.2.1.1) (S.2.2.1.2.1.2 t) S.2.2.1.2.2.1)
      have h80 : (alP S.2.2.1.2.1.2 S.2.2.1.2.2.1 t S.2.2.1.1).1 * (alP S.2.2.1.2.1.2 S.2.2.1.2.2.1 t S.2.2.1.1).2.1 ≤ 80 := pi_80 bw0.1.1
      refine ew_iload_n (M := mX10_all) dX10_all_20 rfl ?_
      refine ew_aload_n (M := mX10_all) dX10_all_21 rfl (Or.inr (Or.inl ⟨_, rfl⟩)) ?_
      refine ew_get (M := mX10_all) dX10_all_22 fX10_20 (by repeat (first | with_reducible assumption | refine ex_eq ?_ | refine ex_ne ?_ (by omega) | exact ex_lt (by with_reducible assumption) | rw [List.length_set] | assumption)) (by rfl) ?_
      refine ew_iconst (M := mX10_all) dX10_all_25 (v := nI 0) (by decide) ?_
      refine ew_iald (M := mX10_all) 0 dX10_all_26 (by repeat (first | with_reducible assumption | refine ex_eq ?_ | refine ex_ne ?_ (by omega) | exact ex_lt (by with_reducible assumption) | rw [List.length_set] | assumption)) ⟨rfl, by decide, by decide⟩ ?_
      rw [F20]
      refine ew_icmp_ge (M := mX10_all) (tgt := 44) dX10_all_27 rfl (fun h => absurd h (nI_ge ht (by omega))) (fun _ => ?_)
      refine ew_iload_n (M := mX10_all) dX10_all_30 rfl ?_
      refine ew_aload_n (M := mX10_all) dX10_all_31 rfl (Or.inr (Or.inl ⟨_, rfl⟩)) ?_
      refine ew_iload_n (M := mX10_all) dX10_all_32 rfl ?_
      refine ew_callV (M := mX10_all) dX10_all_33 vX10_199 (by repeat (first | with_reducible assumption | refine ex_eq ?_ | refine ex_ne ?_ (by omega) | exact ex_lt (by with_reducible assumption) | rw [List.length_set] | assumption)) rfl (ms_applyNow hS2 ht) rfl (Nat.le_of_ble_eq_true rfl) ⟨Nat.le_refl _, Nat.le_refl _⟩ rfl (fun H33 r33 q33 => ?_)
      obtain ⟨rfl, hc3, m3, C3, N3, hS3⟩ := q33
      change ex_W _ _ _ _ _ _ _ _ (.int (nI (pm_gother (alP S.2.2.1.2.1.2 S.2.2.1.2.2.1 t S.2.2.1.1).1 (alP S.2.2.1.2.1.2 S.2.2.1.2.2.1 t S.2.2.1.1).2.1 (alP S.2.2.1.2.1.2 S.2.2.1.2.2.1 t S.2.2.1.1).2.2.1 (apG (alP S.2.2.1.2.1.2 S.2.2.1.2.2.1 t S.2.2.1.1) (S.2.2.1.2.1.2 t) S.2.2.1.2.2.1))) :: _) _ _
      refine ew_iadd (M := mX10_all) dX10_all_36 ?_
      rw [nI_add]
      refine ew_istore_n (M := mX10_all) dX10_all_37 (by decide) rfl ?_
      refine ew_iinc (M := mX10_all) dX10_all_38 rfl (ex_inc t) (by decide) rfl ?_
      refine ew_goto (M := mX10_all) (tgt := 20) dX10_all_41 rfl ?_
      refine ew_ls _ ?_ (k _ m3 C3 N3 (ch + pm_gother (alP S.2.2.1.2.1.2 S.2.2.1.2.2.1 t S.2.2.1.1).1 (alP S.2.2.1.2.1.2 S.2.2.1.2.2.1 t S.2.2.1.1).2.1 (alP S.2.2.1.2.1.2 S.2.2.1.2.2.1 t S.2.2.1.1).2.2.1 (apG (alP S.2.2.1.2.1.2 S.2.2.1.2.2.1 t S.2.2.1.1) (S.2.2.1.2.1.2 t) S.2.2.1.2.2.1)) (hc2.tr hc3 (mL_sub (by decide))) hS3 (fun e q hq => ?_) (by omega))
      · exact ⟨rfl, rfl, rfl, trivial⟩
      · have e1 := gother_z (w := (alP S.2.2.1.2.1.2 S.2.2.1.2.2.1 t S.2.2.1.1).1) (h := (alP S.2.2.1.2.1.2 S.2.2.1.2.2.1 t S.2.2.1.1).2.1) (g := (alP S.2.2.1.2.1.2 S.2.2.1.2.2.1 t S.2.2.1.1).2.2.1) (g2 := apG (alP S.2.2.1.2.1.2 S.2.2.1.2.2.1 t S.2.2.1.1) (S.2.2.1.2.1.2 t) S.2.2.1.2.2.1) (by omega) q (by rw [s1, s2]; exact hq)
        rw [alP_s]
        exact e1.symm.trans (hz2' (by omega) q hq)
    · intro H2 m2 C2 N2 ch hc2 hS2 hz2' hch
      obtain ⟨b1, -, ⟨W2, b2, bw0, ⟨-, bwh⟩, -⟩, -, ⟨F2, b4, bfl⟩, -⟩ := id hS2
      have F20 : F2 0 = nI S.2.2.1.2.1.1 := bfl.2.1
      obtain ⟨s1, s2, s3⟩ := alP_sh S.2.2.1.2.1.2 S.2.2.1.2.2.1 S.2.2.1.2.1.1 S.2.2.1.1
      have hold : mw W2 82 S.2.2.1.1 := by
        have h0 := bwh 0 (by show 0 < hcnt _; unfold hcnt; split <;> omega)
        have e : hpush S.2.2.2.2.2.1.1 S.2.2.2.2.2.1.2 S.2.2.1.1 (hcnt S.2.2.2.2.2.1.1 - 1 - 0) = S.2.2.1.1 := by
          unfold hpush hcnt
          by_cases hc : S.2.2.2.2.2.1.1 < 16
          · rw [if_pos hc, if_pos hc, if_pos (by omega)]
          · rw [if_neg hc, if_neg hc, if_pos rfl]
        have h1 : mw W2 82 (hpush S.2.2.2.2.2.1.1 S.2.2.2.2.2.1.2 S.2.2.1.1 (hcnt S.2.2.2.2.2.1.1 - 1 - 0)) := h0
        rw [e] at h1
        exact h1
      have hnow : mw W2 0 (alP S.2.2.1.2.1.2 S.2.2.1.2.2.1 S.2.2.1.2.1.1 S.2.2.1.1) := bw0
      by_cases hc0 : ch = 0
      · rw [gother_0 (fun k hk => hz2' hc0 k hk), hc0]
        refine ew_iload_n (M := mX10_all) dX10_all_20 rfl ?_
        refine ew_aload_n (M := mX10_all) dX10_all_21 rfl (Or.inr (Or.inl ⟨_, rfl⟩)) ?_
        refine ew_get (M := mX10_all) dX10_all_22 fX10_20 (by repeat (first | with_reducible assumption | refine ex_eq ?_ | refine ex_ne ?_ (by omega) | exact ex_lt (by with_reducible assumption) | rw [List.length_set] | assumption)) (by rfl) ?_
        refine ew_iconst (M := mX10_all) dX10_all_25 (v := nI 0) (by decide) ?_
        refine ew_iald (M := mX10_all) 0 dX10_all_26 (by repeat (first | with_reducible assumption | refine ex_eq ?_ | refine ex_ne ?_ (by omega) | exact ex_lt (by with_reducible assumption) | rw [List.length_set] | assumption)) ⟨rfl, by decide, by decide⟩ ?_
        rw [F20]
        refine ew_icmp_ge (M := mX10_all) (tgt := 44) dX10_all_27 rfl (fun _ => ?_) (fun h => absurd (nI_le (Nat.le_refl _) (by omega)) h)
        refine ew_iconst (M := mX10_all) dX10_all_44 (v := nI 0) (by decide) ?_
        refine ew_istore_n (M := mX10_all) dX10_all_45 (by decide) rfl ?_
        refine ew_iconst (M := mX10_all) dX10_all_46 (v := nI 2) (by decide) ?_
        refine ew_istore_n (M := mX10_all) dX10_all_47 (by decide) rfl ?_
        refine ew_iload_n (M := mX10_all) dX10_all_48 rfl ?_
        refine ew_bipush (M := mX10_all) dX10_all_49 (v := nI 82) (by decide) ?_
        refine ew_icmp_ge (M := mX10_all) (tgt := 132) dX10_all_51 rfl (fun h => absurd h (by decide)) (fun _ => ?_)
        refine ew_iload_n (M := mX10_all) dX10_all_54 rfl ?_
        refine ew_if_le (M := mX10_all) (tgt := 132) dX10_all_55 rfl (fun _ => ?_) (fun h => absurd (by decide) h)
        refine ew_iload_n (M := mX10_all) dX10_all_132 rfl ?_
        refine ew_iret (M := mX10_all) dX10_all_133 rfl (by first | rfl | decide) (Nat.le_refl _) (Nat.le_refl _) ?_
        exact ⟨rfl, hc2, R, m2, C2, N2, hS2⟩
      · rw [← f80_eq hz2 hz4]
        refine ew_iload_n (M := mX10_all) dX10_all_20 rfl ?_
        refine ew_aload_n (M := mX10_all) dX10_all_21 rfl (Or.inr (Or.inl ⟨_, rfl⟩)) ?_
        refine ew_get (M := mX10_all) dX10_all_22 fX10_20 (by repeat (first | with_reducible assumption | refine ex_eq ?_ | refine ex_ne ?_ (by omega) | exact ex_lt (by with_reducible assumption) | rw [List.length_set] | assumption)) (by rfl) ?_
        refine ew_iconst (M := mX10_all) dX10_all_25 (v := nI 0) (by decide) ?_
        refine ew_iald (M := mX10_all) 0 dX10_all_26 (by repeat (first | with_reducible assumption | refine ex_eq ?_ | refine ex_ne ?_ (by omega) | exact ex_lt (by with_reducible assumption) | rw [List.length_set] | assumption)) ⟨rfl, by decide, by decide⟩ ?_
        rw [F20]
        refine ew_icmp_ge (M := mX10_all) (tgt := 44) dX10_all_27 rfl (fun _ => ?_) (fun h => absurd (nI_le (Nat.le_refl _) (by omega)) h)
        refine ew_iconst (M := mX10_all) dX10_all_44 (v := nI 0) (by decide) ?_
        refine ew_istore_n (M := mX10_all) dX10_all_45 (by decide) rfl ?_
        refine ew_iconst (M := mX10_all) dX10_all_46 (v := nI 2) (by decide) ?_
        refine ew_istore_n (M := mX10_all) dX10_all_47 (by decide) rfl ?_
        refine ew_ls [(0, .ref 86), (1, .int (nI ch)), (2, .int (nI 0)), (3, .int (nI (0 + 2)))] ⟨rfl, rfl, rfl, rfl, trivial⟩ ?_
        refine fl_down (F := f80 S.2.2.1.1.1 S.2.2.1.1.2.1 (alP S.2.2.1.2.1.2 S.2.2.1.2.2.1 S.2.2.1.2.1.1 S.2.2.1.1).2.2.1 S.2.2.1.1.2.2.1) (P := fun q n => ex_W mX10_all (d + 7) 0 0 _ H2 48 [(0, .ref 86), (1, .int (nI ch)), (2, .int (nI n)), (3, .int (nI (q + 2)))] [] 0 0) 80 0 (fun q n hq _ k => ?_) ?_
        · have v0 : W2 0 = nI S.2.2.1.1.1 := by rw [← s1]; exact hnow.2.1
          have v1 : W2 1 = nI S.2.2.1.1.2.1 := by rw [← s2]; exact hnow.2.2.1
          have hm10 : q % 10 < 10 := Nat.mod_lt _ (by decide)
          unfold f80 at k
          by_cases hin : q % 10 < S.2.2.1.1.1 ∧ q / 10 < S.2.2.1.1.2.1
          · have d1 := hnow.2.2.2 (q % 10) (q / 10) (by rw [s1]; exact hin.1) (by rw [s2]; exact hin.2)
            have d2 := hold.2.2.2 (q % 10) (q / 10) hin.1 hin.2
            rw [s1, s3] at d1
            rw [show 0 + (2 + 10 * (q / 10) + q % 10) = q + 2 by omega] at d1
            rw [show 82 + (2 + 10 * (q / 10) + q % 10) = 82 + (q + 2) by omega] at d2
            have g1 := hgm _ (pi_lt hin.1 hin.2)
            have g2 := (hnow.1.2 (q / 10 * S.2.2.1.1.1 + q % 10) (by rw [s1, s2]; exact pi_lt hin.1 hin.2)).1
            rw [if_pos hin] at k
            refine ew_iload_n (M := mX10_all) dX10_all_48 rfl ?_
            refine ew_bipush (M := mX10_all) dX10_all_49 (v := nI 82) (by decide) ?_
            refine ew_icmp_ge (M := mX10_all) (tgt := 132) dX10_all_51 rfl (fun h => absurd h (nI_ge (by omega) (by omega))) (fun _ => ?_)
            refine ew_iload_n (M := mX10_all) dX10_all_54 rfl ?_
            refine ew_if_le (M := mX10_all) (tgt := 132) dX10_all_55 rfl (fun h => absurd h (nI_nle (by omega) (by omega))) (fun _ => ?_)
            refine ew_iload_n (M := mX10_all) dX10_all_58 rfl ?_
            refine ew_iconst (M := mX10_all) dX10_all_59 (v := nI 2) (by decide) ?_
            refine ew_isub (M := mX10_all) dX10_all_60 ?_
            rw [nI_sb (a := q + 2) (by omega), Nat.add_sub_cancel]
            refine ew_bipush (M := mX10_all) dX10_all_61 (v := nI 10) (by decide) ?_
            refine ew_irem (M := mX10_all) dX10_all_63 (by decide) ?_
            rw [pk_rem (by omega) (by decide) (by decide)]
            refine ew_aload_n (M := mX10_all) dX10_all_64 rfl (Or.inr (Or.inl ⟨_, rfl⟩)) ?_
            refine ew_get (M := mX10_all) dX10_all_65 fX10_7 (by repeat (first | with_reducible assumption | refine ex_eq ?_ | refine ex_ne ?_ (by omega) | exact ex_lt (by with_reducible assumption) | rw [List.length_set] | assumption)) (by rfl) ?_
            refine ew_iconst (M := mX10_all) dX10_all_68 (v := nI 0) (by decide) ?_
            refine ew_iald (M := mX10_all) 0 dX10_all_69 (by repeat (first | with_reducible assumption | refine ex_eq ?_ | refine ex_ne ?_ (by omega) | exact ex_lt (by with_reducible assumption) | rw [List.length_set] | assumption)) ⟨rfl, by decide, by decide⟩ ?_
            rw [v0]
            refine ew_icmp_ge (M := mX10_all) (tgt := 92) dX10_all_70 rfl (fun h => absurd h (nI_ge hin.1 (by omega))) (fun _ => ?_)
            refine ew_iload_n (M := mX10_all) dX10_all_73 rfl ?_
            refine ew_iconst (M := mX10_all) dX10_all_74 (v := nI 2) (by decide) ?_
            refine ew_isub (M := mX10_all) dX10_all_75 ?_
            rw [nI_sb (a := q + 2) (by omega), Nat.add_sub_cancel]
            refine ew_bipush (M := mX10_all) dX10_all_76 (v := nI 10) (by decide) ?_
            refine ew_idiv (M := mX10_all) dX10_all_78 (by decide) ?_
            rw [pk_div (by omega) (by decide) (by decide)]
            refine ew_aload_n (M := mX10_all) dX10_all_79 rfl (Or.inr (Or.inl ⟨_, rfl⟩)) ?_
            refine ew_get (M := mX10_all) dX10_all_80 fX10_7 (by repeat (first | with_reducible assumption | refine ex_eq ?_ | refine ex_ne ?_ (by omega) | exact ex_lt (by with_reducible assumption) | rw [List.length_set] | assumption)) (by rfl) ?_
            refine ew_iconst (M := mX10_all) dX10_all_83 (v := nI 1) (by decide) ?_
            refine ew_iald (M := mX10_all) 1 dX10_all_84 (by repeat (first | with_reducible assumption | refine ex_eq ?_ | refine ex_ne ?_ (by omega) | exact ex_lt (by with_reducible assumption) | rw [List.length_set] | assumption)) ⟨rfl, by decide, by decide⟩ ?_
            rw [v1]
            refine ew_icmp_ge (M := mX10_all) (tgt := 92) dX10_all_85 rfl (fun h => absurd h (nI_ge hin.2 (by omega))) (fun _ => ?_)
            refine ew_iconst (M := mX10_all) dX10_all_88 (v := nI 1) (by decide) ?_
            refine ew_goto (M := mX10_all) (tgt := 93) dX10_all_89 rfl ?_
            refine ew_istore (M := mX10_all) dX10_all_93 (by decide) rfl ?_
            refine ew_iload_n (M := mX10_all) dX10_all_95 rfl ?_
            refine ew_iload (M := mX10_all) dX10_all_96 rfl ?_
            refine ew_if_eq (M := mX10_all) (tgt := 123) dX10_all_98 rfl (fun h => absurd h (by decide)) (fun _ => ?_)
            refine ew_aload_n (M := mX10_all) dX10_all_101 rfl (Or.inr (Or.inl ⟨_, rfl⟩)) ?_
            refine ew_get (M := mX10_all) dX10_all_102 fX10_7 (by repeat (first | with_reducible assumption | refine ex_eq ?_ | refine ex_ne ?_ (by omega) | exact ex_lt (by with_reducible assumption) | rw [List.length_set] | assumption)) (by rfl) ?_
            refine ew_iload_n (M := mX10_all) dX10_all_105 rfl ?_
            refine ew_iald (M := mX10_all) (q + 2) dX10_all_106 (by repeat (first | with_reducible assumption | refine ex_eq ?_ | refine ex_ne ?_ (by omega) | exact ex_lt (by with_reducible assumption) | rw [List.length_set] | assumption)) ⟨rfl, by omega, by decide⟩ ?_
            rw [d1]
            refine ew_aload_n (M := mX10_all) dX10_all_107 rfl (Or.inr (Or.inl ⟨_, rfl⟩)) ?_
            refine ew_get (M := mX10_all) dX10_all_108 fX10_7 (by repeat (first | with_reducible assumption | refine ex_eq ?_ | refine ex_ne ?_ (by omega) | exact ex_lt (by with_reducible assumption) | rw [List.length_set] | assumption)) (by rfl) ?_
            refine ew_bipush (M := mX10_all) dX10_all_111 (v := nI 82) (by decide) ?_
            refine ew_iload_n (M := mX10_all) dX10_all_113 rfl ?_
            refine ew_iadd (M := mX10_all) dX10_all_114 ?_
            refine ew_iald (M := mX10_all) (82 + (q + 2)) dX10_all_115 (by repeat (first | with_reducible assumption | refine ex_eq ?_ | refine ex_ne ?_ (by omega) | exact ex_lt (by with_reducible assumption) | rw [List.length_set] | assumption)) ⟨by rw [nI_add], by omega, by decide⟩ ?_
            rw [d2]
            refine ew_icmp_eq (M := mX10_all) (tgt := 123) dX10_all_116 rfl (fun c116 => ?_) (fun c116 => ?_)
            · rw [nI_eq (by omega) (by omega)] at c116
              rw [if_pos (by omega)] at k
              refine ew_iconst (M := mX10_all) dX10_all_123 (v := nI 0) (by decide) ?_
              refine ew_iadd (M := mX10_all) dX10_all_124 ?_
              rw [nI_add]
              refine ew_istore_n (M := mX10_all) dX10_all_125 (by decide) rfl ?_
              refine ew_iinc (M := mX10_all) dX10_all_126 rfl (ex_inc (q + 2)) (by decide) rfl ?_
              refine ew_goto (M := mX10_all) (tgt := 48) dX10_all_129 rfl ?_
              refine ew_ls _ ?_ k
              exact ⟨rfl, rfl, rfl, rfl, trivial⟩
            · rw [nI_eq (by omega) (by omega)] at c116
              rw [if_neg (by omega)] at k
              refine ew_iconst (M := mX10_all) dX10_all_119 (v := nI 1) (by decide) ?_
              refine ew_goto (M := mX10_all) (tgt := 124) dX10_all_120 rfl ?_
              refine ew_iadd (M := mX10_all) dX10_all_124 ?_
              rw [nI_add]
              refine ew_istore_n (M := mX10_all) dX10_all_125 (by decide) rfl ?_
              refine ew_iinc (M := mX10_all) dX10_all_126 rfl (ex_inc (q + 2)) (by decide) rfl ?_
              refine ew_goto (M := mX10_all) (tgt := 48) dX10_all_129 rfl ?_
              refine ew_ls _ ?_ k
              exact ⟨rfl, rfl, rfl, rfl, trivial⟩
          · rw [if_neg hin] at k
            refine ew_iload_n (M := mX10_all) dX10_all_48 rfl ?_
            refine ew_bipush (M := mX10_all) dX10_all_49 (v := nI 82) (by decide) ?_
            refine ew_icmp_ge (M := mX10_all) (tgt := 132) dX10_all_51 rfl (fun h => absurd h (nI_ge (by omega) (by omega))) (fun _ => ?_)
            refine ew_iload_n (M := mX10_all) dX10_all_54 rfl ?_
            refine ew_if_le (M := mX10_all) (tgt := 132) dX10_all_55 rfl (fun h => absurd h (nI_nle (by omega) (by omega))) (fun _ => ?_)
            refine ew_iload_n (M := mX10_all) dX10_all_58 rfl ?_
            refine ew_iconst (M := mX10_all) dX10_all_59 (v := nI 2) (by decide) ?_
            refine ew_isub (M := mX10_all) dX10_all_60 ?_
            rw [nI_sb (a := q + 2) (by omega), Nat.add_sub_cancel]
            refine ew_bipush (M := mX10_all) dX10_all_61 (v := nI 10) (by decide) ?_
            refine ew_irem (M := mX10_all) dX10_all_63 (by decide) ?_
            rw [pk_rem (by omega) (by decide) (by decide)]
            refine ew_aload_n (M := mX10_all) dX10_all_64 rfl (Or.inr (Or.inl ⟨_, rfl⟩)) ?_
            refine ew_get (M := mX10_all) dX10_all_65 fX10_7 (by repeat (first | with_reducible assumption | refine ex_eq ?_ | refine ex_ne ?_ (by omega) | exact ex_lt (by with_reducible assumption) | rw [List.length_set] | assumption)) (by rfl) ?_
            refine ew_iconst (M := mX10_all) dX10_all_68 (v := nI 0) (by decide) ?_
            refine ew_iald (M := mX10_all) 0 dX10_all_69 (by repeat (first | with_reducible assumption | refine ex_eq ?_ | refine ex_ne ?_ (by omega) | exact ex_lt (by with_reducible assumption) | rw [List.length_set] | assumption)) ⟨rfl, by decide, by decide⟩ ?_
            rw [v0]
            refine ew_icmp_ge (M := mX10_all) (tgt := 92) dX10_all_70 rfl (fun c70 => ?_) (fun c70 => ?_)
            · refine ew_iconst (M := mX10_all) dX10_all_92 (v := nI 0) (by decide) ?_
              refine ew_istore (M := mX10_all) dX10_all_93 (by decide) rfl ?_
              refine ew_iload_n (M := mX10_all) dX10_all_95 rfl ?_
              refine ew_iload (M := mX10_all) dX10_all_96 rfl ?_
              refine ew_if_eq (M := mX10_all) (tgt := 123) dX10_all_98 rfl (fun _ => ?_) (fun h => absurd (by decide) h)
              refine ew_iconst (M := mX10_all) dX10_all_123 (v := nI 0) (by decide) ?_
              refine ew_iadd (M := mX10_all) dX10_all_124 ?_
              rw [nI_add]
              refine ew_istore_n (M := mX10_all) dX10_all_125 (by decide) rfl ?_
              refine ew_iinc (M := mX10_all) dX10_all_126 rfl (ex_inc (q + 2)) (by decide) rfl ?_
              refine ew_goto (M := mX10_all) (tgt := 48) dX10_all_129 rfl ?_
              refine ew_ls _ ?_ k
              exact ⟨rfl, rfl, rfl, rfl, trivial⟩
            · rw [nI_leI (by omega) (by omega)] at c70
              refine ew_iload_n (M := mX10_all) dX10_all_73 rfl ?_
              refine ew_iconst (M := mX10_all) dX10_all_74 (v := nI 2) (by decide) ?_
              refine ew_isub (M := mX10_all) dX10_all_75 ?_
              rw [nI_sb (a := q + 2) (by omega), Nat.add_sub_cancel]
              refine ew_bipush (M := mX10_all) dX10_all_76 (v := nI 10) (by decide) ?_
              refine ew_idiv (M := mX10_all) dX10_all_78 (by decide) ?_
              rw [pk_div (by omega) (by decide) (by decide)]
              refine ew_aload_n (M := mX10_all) dX10_all_79 rfl (Or.inr (Or.inl ⟨_, rfl⟩)) ?_
              refine ew_get (M := mX10_all) dX10_all_80 fX10_7 (by repeat (first | with_reducible assumption | refine ex_eq ?_ | refine ex_ne ?_ (by omega) | exact ex_lt (by with_reducible assumption) | rw [List.length_set] | assumption)) (by rfl) ?_
              refine ew_iconst (M := mX10_all) dX10_all_83 (v := nI 1) (by decide) ?_
              refine ew_iald (M := mX10_all) 1 dX10_all_84 (by repeat (first | with_reducible assumption | refine ex_eq ?_ | refine ex_ne ?_ (by omega) | exact ex_lt (by with_reducible assumption) | rw [List.length_set] | assumption)) ⟨rfl, by decide, by decide⟩ ?_
              rw [v1]
              refine ew_icmp_ge (M := mX10_all) (tgt := 92) dX10_all_85 rfl (fun c85 => ?_) (fun c85 => ?_)
              · refine ew_iconst (M := mX10_all) dX10_all_92 (v := nI 0) (by decide) ?_
                refine ew_istore (M := mX10_all) dX10_all_93 (by decide) rfl ?_
                refine ew_iload_n (M := mX10_all) dX10_all_95 rfl ?_
                refine ew_iload (M := mX10_all) dX10_all_96 rfl ?_
                refine ew_if_eq (M := mX10_all) (tgt := 123) dX10_all_98 rfl (fun _ => ?_) (fun h => absurd (by decide) h)
                refine ew_iconst (M := mX10_all) dX10_all_123 (v := nI 0) (by decide) ?_
                refine ew_iadd (M := mX10_all) dX10_all_124 ?_
                rw [nI_add]
                refine ew_istore_n (M := mX10_all) dX10_all_125 (by decide) rfl ?_
                refine ew_iinc (M := mX10_all) dX10_all_126 rfl (ex_inc (q + 2)) (by decide) rfl ?_
                refine ew_goto (M := mX10_all) (tgt := 48) dX10_all_129 rfl ?_
                refine ew_ls _ ?_ k
                exact ⟨rfl, rfl, rfl, rfl, trivial⟩
              · rw [nI_leI (by omega) (by omega)] at c85
                exact absurd ⟨by omega, by omega⟩ hin
        · refine ew_iload_n (M := mX10_all) dX10_all_48 rfl ?_
          refine ew_bipush (M := mX10_all) dX10_all_49 (v := nI 82) (by decide) ?_
          refine ew_icmp_ge (M := mX10_all) (tgt := 132) dX10_all_51 rfl (fun _ => ?_) (fun h => absurd (nI_le (by omega) (by omega)) h)
          refine ew_iload_n (M := mX10_all) dX10_all_132 rfl ?_
          refine ew_iret (M := mX10_all) dX10_all_133 rfl (by first | rfl | decide) (Nat.le_refl _) (Nat.le_refl _) ?_
          exact ⟨rfl, hc2, R, m2, C2, N2, hS2⟩
theorem mo_seed {H : ex_H} {S : SS} {R : Int32 × Int32 × Int32 × Int32} {mn : Int32} {C N : Nat → Int32} (hS : mo_at H S R mn C N) {X : Nat} (hX : X < 2 ^ 31) : mo_at (H.set 86 (mob (nI S.2.2.2.2.2.1.1) (nI (S.2.2.2.1 0 + 2 * S.2.2.2.1 1)) (nI X) (nI S.1.1) S.2.1 (nI S.2.2.1.2.2.1) (nI S.2.2.2.2.2.2.1) R.1 R.2.1 R.2.2.1 R.2.2.2 mn)) (s_now S (S.2.2.1.1, S.2.2.1.2.1, S.2.2.1.2.2.1, X)) R mn C N := by
  obtain ⟨a1, ⟨hfi, hsd, hkp⟩, ⟨W, a2, hw0, ⟨hcn, hwh⟩, hwi⟩, ⟨T, a3, htn, htx⟩, ⟨F, a4, hfl⟩, ⟨IF, IL, IS, a5, a6, a7, him⟩, ⟨BX, BY, BG, a8, a9, a10, hbn, hbk⟩, a11, a12⟩ := id hS
  exact ⟨(by repeat (first | with_reducible assumption | refine ex_eq ?_ | refine ex_ne ?_ (by omega) | exact ex_lt (by with_reducible assumption) | rw [List.length_set] | assumption)), ⟨hfi, hX, hkp⟩, ⟨W, (by repeat (first | with_reducible assumption | refine ex_eq ?_ | refine ex_ne ?_ (by omega) | exact ex_lt (by with_reducible assumption) | rw [List.length_set] | assumption)), hw0, ⟨hcn, hwh⟩, hwi⟩, ⟨T, (by repeat (first | with_reducible assumption | refine ex_eq ?_ | refine ex_ne ?_ (by omega) | exact ex_lt (by with_reducible assumption) | rw [List.length_set] | assumption)), htn, htx⟩, ⟨F, (by repeat (first | with_reducible assumption | refine ex_eq ?_ | refine ex_ne ?_ (by omega) | exact ex_lt (by with_reducible assumption) | rw [List.length_set] | assumption)), hfl⟩, ⟨IF, IL, IS, (by repeat (first | with_reducible assumption | refine ex_eq ?_ | refine ex_ne ?_ (by omega) | exact ex_lt (by with_reducible assumption) | rw [List.length_set] | assumption)), (by repeat (first | with_reducible assumption | refine ex_eq ?_ | refine ex_ne ?_ (by omega) | exact ex_lt (by with_reducible assumption) | rw [List.length_set] | assumption)), (by repeat (first | with_reducible assumption | refine ex_eq ?_ | refine ex_ne ?_ (by omega) | exact ex_lt (by with_reducible assumption) | rw [List.length_set] | assumption)), him⟩, ⟨BX, BY, BG, (by repeat (first | with_reducible assumption | refine ex_eq ?_ | refine ex_ne ?_ (by omega) | exact ex_lt (by with_reducible assumption) | rw [List.length_set] | assumption)), (by repeat (first | with_reducible assumption | refine ex_eq ?_ | refine ex_ne ?_ (by omega) | exact ex_lt (by with_reducible assumption) | rw [List.length_set] | assumption)), (by repeat (first | with_reducible assumption | refine ex_eq ?_ | refine ex_ne ?_ (by omega) | exact ex_lt (by with_reducible assumption) | rw [List.length_set] | assumption)), hbn, hbk⟩, (by repeat (first | with_reducible assumption | refine ex_eq ?_ | refine ex_ne ?_ (by omega) | exact ex_lt (by with_reducible assumption) | rw [List.length_set] | assumption)), (by repeat (first | with_reducible assumption | refine ex_eq ?_ | refine ex_ne ?_ (by omega) | exact ex_lt (by with_reducible assumption) | rw [List.length_set] | assumption))⟩
theorem ms_draw {d : Nat} {H : ex_H} {S : SS} {R : Int32 × Int32 × Int32 × Int32} {mn : Int32} {C N : Nat → Int32} (hS : mo_at H S R mn C N) {n : Nat} (hn : 0 < n) (hn2 : n < 1000) : ex_Met mX10_draw d 0 0 H [.ref 86, .int (nI n)] (fun H' r => ∃ X Y, X = sn S.2.2.1.2.2.2 ∧ Y = dr S.2.2.1.2.2.2 n ∧ r = some (.int (nI Y)) ∧ ex_ch H H' [86] ∧ mo_at H' (s_now S (S.2.2.1.1, S.2.2.1.2.1, S.2.2.1.2.2.1, X)) R mn C N) := by
  obtain ⟨a1, ⟨hfi, hsd, hkp⟩, ⟨W, a2, hw0, ⟨hcn, hwh⟩, hwi⟩, ⟨T, a3, htn, htx⟩, ⟨F, a4, hfl⟩, ⟨IF, IL, IS, a5, a6, a7, him⟩, ⟨BX, BY, BG, a8, a9, a10, hbn, hbk⟩, a11, a12⟩ := id hS
  have e1 : (1103515245 : Int64) = lN 1103515245 := by decide
  have e2 : (12345 : Int64) = lN 12345 := by decide
  have e3 : (2147483648 : Int64) = lN 2147483648 := by decide
  have e4 : (65536 : Int32) = nI 65536 := by decide
  have hsl := sn_lt S.2.2.1.2.2.2
  refine ex_meth [(0, .ref 86), (1, .int (nI n))] rfl rfl rfl (fun b => Nat.le_of_ble_eq_true rfl) ?_
  refine ew_aload_n (M := mX10_draw) dX10_draw_0 rfl (Or.inr (Or.inl ⟨_, rfl⟩)) ?_
  refine ew_aload_n (M := mX10_draw) dX10_draw_1 rfl (Or.inr (Or.inl ⟨_, rfl⟩)) ?_
  refine ew_get (M := mX10_draw) dX10_draw_2 fX10_204 (by repeat (first | with_reducible assumption | refine ex_eq ?_ | refine ex_ne ?_ (by omega) | exact ex_lt (by with_reducible assumption) | rw [List.length_set] | assumption)) (by rfl) ?_
  refine ew_i2l (M := mX10_draw) dX10_draw_5 ?_
  rw [nI_l hsd]
  refine ew_ldc2 (M := mX10_draw) dX10_draw_6 kX10_207 ?_
  refine ew_lmul (M := mX10_draw) dX10_draw_9 ?_
  rw [e1, lN_mul]
  refine ew_ldc2 (M := mX10_draw) dX10_draw_10 kX10_209 ?_
  refine ew_ladd (M := mX10_draw) dX10_draw_13 ?_
  rw [e2, lN_add]
  refine ew_ldc2 (M := mX10_draw) dX10_draw_14 kX10_211 ?_
  refine ew_lrem (M := mX10_draw) dX10_draw_17 (by decide) ?_
  rw [e3, pk_lRem (by omega) (by decide) (by decide)]
  refine ew_l2i (M := mX10_draw) dX10_draw_18 ?_
  rw [lN_i]
  change ex_W _ _ _ _ _ _ _ _ (.int (nI (sn S.2.2.1.2.2.2)) :: _) _ _
  refine ew_put (M := mX10_draw) dX10_draw_19 fX10_204 (by repeat (first | with_reducible assumption | refine ex_eq ?_ | refine ex_ne ?_ (by omega) | exact ex_lt (by with_reducible assumption) | rw [List.length_set] | assumption)) (by exact Nat.le_of_ble_eq_true rfl) ⟨rfl, rfl, fun _ h => by cases h⟩ ?_
  refine ew_aload_n (M := mX10_draw) dX10_draw_22 rfl (Or.inr (Or.inl ⟨_, rfl⟩)) ?_
  refine ew_get (M := mX10_draw) dX10_draw_23 fX10_204 (by repeat (first | with_reducible assumption | refine ex_eq ?_ | refine ex_ne ?_ (by omega) | exact ex_lt (by with_reducible assumption) | rw [List.length_set] | assumption)) (by rfl) ?_
  refine ew_ldc (M := mX10_draw) dX10_draw_26 kX10_213 ?_
  refine ew_idiv (M := mX10_draw) dX10_draw_28 (by decide) ?_
  rw [e4, pk_div hsl (by decide) (by decide)]
  refine ew_iload_n (M := mX10_draw) dX10_draw_29 rfl ?_
  refine ew_irem (M := mX10_draw) dX10_draw_30 (nI_n0 hn (by omega)) ?_
  rw [pk_rem (by omega) hn (by omega)]
  refine ew_iret (M := mX10_draw) dX10_draw_31 rfl (by first | rfl | decide) (Nat.le_refl _) (Nat.le_refl _) ?_
  exact ⟨sn S.2.2.1.2.2.2, dr S.2.2.1.2.2.2 n, rfl, rfl, rfl, ex_ch.rf.set (by simp), mo_seed hS hsl⟩
theorem ms_noise {d : Nat} {H : ex_H} {S : SS} (hS : mo_is H S) (n : Int32) : ex_Met mX10_noise (d + 3) 0 0 H [.ref 86, .int n] (fun H' r => r = some (.int (f_noise S n).1) ∧ ex_ch H H' mL ∧ mo_is H' (f_noise S n).2) := by
  obtain ⟨R, mn, C, N, hS⟩ := hS
  by_cases hx : nI 1 ≤ n ∧ n ≤ nI 12
  · obtain ⟨n, hn1, hn2, rfl⟩ := nI_of4 (by decide) hx
    have ef : f_noise S (nI n) = (nI (fl (fun _ S => nstep S) n S).2.2.1.2.2.2, fl (fun _ S => nstep S) n S) := by
      unfold f_noise
      rw [cif_y hx, nI_clamp (by omega)]
    rw [ef]
    refine ex_meth [(0, .ref 86), (1, .int (nI n))] rfl rfl rfl (fun b => Nat.le_of_ble_eq_true rfl) ?_
    refine ew_iload_n (M := mX10_noise) dX10_noise_0 rfl ?_
    refine ew_i2l (M := mX10_noise) dX10_noise_1 ?_
    refine ew_lconst (M := mX10_noise) dX10_noise_2 (v := 1) (by decide) ?_
    refine ew_ldc2 (M := mX10_noise) dX10_noise_3 kX10_214 ?_
    refine ew_callS (M := mX10_noise) dX10_noise_6 vX10_58 (ms_in_y (l := nI 1) (g := nI 12) (by decide) (by decide) hx.1 hx.2) rfl (Nat.le_of_ble_eq_true rfl) ⟨Nat.le_refl _, Nat.le_refl _⟩ rfl (fun H6 r6 q6 => ?_)
    obtain ⟨rfl, rfl⟩ := q6
    refine ew_if_ne (M := mX10_noise) (tgt := 15) dX10_noise_9 rfl (fun _ => ?_) (fun h => absurd h (by decide))
    refine ew_iconst (M := mX10_noise) dX10_noise_15 (v := nI 0) (by decide) ?_
    refine ew_istore_n (M := mX10_noise) dX10_noise_16 (by decide) rfl ?_
    refine ew_ls [(0, .ref 86), (1, .int (nI n)), (2, .int (nI 0))] ⟨rfl, rfl, rfl, trivial⟩ ?_
    refine fl_down (F := fun _ S => nstep S) (P := fun t S2 => ∀ H2 : ex_H, ex_ch H H2 mL → mo_at H2 S2 R mn C N → ex_W mX10_noise (d + 3) 0 0 _ H2 17 [(0, .ref 86), (1, .int (nI n)), (2, .int (nI t))] [] 0 0) n S (fun t S2 ht _ k => ?_) ?_ H ex_ch.rf hS
    · intro H2 hc2 hS2
      have b1 := hS2.1
      refine ew_iload_n (M := mX10_noise) dX10_noise_17 rfl ?_
      refine ew_iload_n (M := mX10_noise) dX10_noise_18 rfl ?_
      refine ew_icmp_ge (M := mX10_noise) (tgt := 97) dX10_noise_19 rfl (fun h => absurd h (nI_ge ht (by omega))) (fun _ => ?_)
      refine ew_aload_n (M := mX10_noise) dX10_noise_22 rfl (Or.inr (Or.inl ⟨_, rfl⟩)) ?_
      refine ew_callV (M := mX10_noise) dX10_noise_23 vX10_115 (by repeat (first | with_reducible assumption | refine ex_eq ?_ | refine ex_ne ?_ (by omega) | exact ex_lt (by with_reducible assumption) | rw [List.length_set] | assumption)) rfl (ms_remember hS2) rfl (Nat.le_of_ble_eq_true rfl) ⟨Nat.le_refl _, Nat.le_refl _⟩ rfl (fun H23 r23 q23 => ?_)
      obtain ⟨rfl, hc3, hS3⟩ := q23
      obtain ⟨x1, -, ⟨W3, x2, xw0, -⟩, -⟩ := id hS3
      obtain ⟨⟨⟨xz1, xz2, xz3, xz4⟩, xgm⟩, x0, xi, -⟩ := id xw0
      have x0 : W3 0 = nI S2.2.2.1.1.1 := x0
      have xi : W3 1 = nI S2.2.2.1.1.2.1 := xi
      change 1 ≤ S2.2.2.1.1.1 at xz1
      change S2.2.2.1.1.1 ≤ 10 at xz2
      change 1 ≤ S2.2.2.1.1.2.1 at xz3
      change S2.2.2.1.1.2.1 ≤ 8 at xz4
      refine ew_aload_n (M := mX10_noise) dX10_noise_26 rfl (Or.inr (Or.inl ⟨_, rfl⟩)) ?_
      refine ew_aload_n (M := mX10_noise) dX10_noise_27 rfl (Or.inr (Or.inl ⟨_, rfl⟩)) ?_
      refine ew_get (M := mX10_noise) dX10_noise_28 fX10_7 (by repeat (first | with_reducible assumption | refine ex_eq ?_ | refine ex_ne ?_ (by omega) | exact ex_lt (by with_reducible assumption) | rw [List.length_set] | assumption)) (by rfl) ?_
      refine ew_iconst (M := mX10_noise) dX10_noise_31 (v := nI 0) (by decide) ?_
      refine ew_iald (M := mX10_noise) 0 dX10_noise_32 (by repeat (first | with_reducible assumption | refine ex_eq ?_ | refine ex_ne ?_ (by omega) | exact ex_lt (by with_reducible assumption) | rw [List.length_set] | assumption)) ⟨rfl, by decide, by decide⟩ ?_
      rw [x0]
      refine ew_callV (M := mX10_noise) dX10_noise_33 vX10_216 (by repeat (first | with_reducible assumption | refine ex_eq ?_ | refine ex_ne ?_ (by omega) | exact ex_lt (by with_reducible assumption) | rw [List.length_set] | assumption)) rfl (ms_draw hS3 (n := S2.2.2.1.1.1) (by omega) (by omega)) rfl (Nat.le_of_ble_eq_true rfl) ⟨Nat.le_refl _, Nat.le_refl _⟩ rfl (fun H33 r33 q33 => ?_)
      obtain ⟨X1, Y1, hX1, hY1, rfl, hd1, hE1⟩ := q33
      have k1 := hE1.1
      have k2 := hd1.at x2 (by simp)
      change X1 = sn S2.2.2.1.2.2.2 at hX1
      change Y1 = dr S2.2.2.1.2.2.2 S2.2.2.1.1.1 at hY1
      refine ew_istore_n (M := mX10_noise) dX10_noise_36 (by decide) rfl ?_
      refine ew_aload_n (M := mX10_noise) dX10_noise_37 rfl (Or.inr (Or.inl ⟨_, rfl⟩)) ?_
      refine ew_aload_n (M := mX10_noise) dX10_noise_38 rfl (Or.inr (Or.inl ⟨_, rfl⟩)) ?_
      refine ew_get (M := mX10_noise) dX10_noise_39 fX10_7 (by repeat (first | with_reducible assumption | refine ex_eq ?_ | refine ex_ne ?_ (by omega) | exact ex_lt (by with_reducible assumption) | rw [List.length_set] | assumption)) (by rfl) ?_
      refine ew_iconst (M := mX10_noise) dX10_noise_42 (v := nI 1) (by decide) ?_
      refine ew_iald (M := mX10_noise) 1 dX10_noise_43 (by repeat (first | with_reducible assumption | refine ex_eq ?_ | refine ex_ne ?_ (by omega) | exact ex_lt (by with_reducible assumption) | rw [List.length_set] | assumption)) ⟨rfl, by decide, by decide⟩ ?_
      rw [xi]
      refine ew_callV (M := mX10_noise) dX10_noise_44 vX10_216 (by repeat (first | with_reducible assumption | refine ex_eq ?_ | refine ex_ne ?_ (by omega) | exact ex_lt (by with_reducible assumption) | rw [List.length_set] | assumption)) rfl (ms_draw hE1 (n := S2.2.2.1.1.2.1) (by omega) (by omega)) rfl (Nat.le_of_ble_eq_true rfl) ⟨Nat.le_refl _, Nat.le_refl _⟩ rfl (fun H44 r44 q44 => ?_)
      obtain ⟨X2, Y2, hX2, hY2, rfl, hd2, hE2⟩ := q44
      have k3 := hE2.1
      change X2 = sn X1 at hX2
      change Y2 = dr X1 S2.2.2.1.1.2.1 at hY2
      refine ew_istore (M := mX10_noise) dX10_noise_47 (by decide) rfl ?_
      refine ew_aload_n (M := mX10_noise) dX10_noise_49 rfl (Or.inr (Or.inl ⟨_, rfl⟩)) ?_
      refine ew_iconst (M := mX10_noise) dX10_noise_50 (v := nI 3) (by decide) ?_
      refine ew_callV (M := mX10_noise) dX10_noise_51 vX10_216 (by repeat (first | with_reducible assumption | refine ex_eq ?_ | refine ex_ne ?_ (by omega) | exact ex_lt (by with_reducible assumption) | rw [List.length_set] | assumption)) rfl (ms_draw hE2 (n := 3) (by omega) (by omega)) rfl (Nat.le_of_ble_eq_true rfl) ⟨Nat.le_refl _, Nat.le_refl _⟩ rfl (fun H51 r51 q51 => ?_)
      obtain ⟨X3, Y3, hX3, hY3, rfl, hd3, hE3⟩ := q51
      have k4 := hE3.1
      change X3 = sn X2 at hX3
      change Y3 = dr X2 3 at hY3
      have l1 : Y1 < S2.2.2.1.1.1 := by rw [hY1]; exact dr_lt (by omega)
      have l2 : Y2 < S2.2.2.1.1.2.1 := by rw [hY2]; exact dr_lt (by omega)
      have l3 : Y3 < 3 := by rw [hY3]; exact dr_lt (by omega)
      refine ew_istore (M := mX10_noise) dX10_noise_54 (by decide) rfl ?_
      refine ew_aload_n (M := mX10_noise) dX10_noise_56 rfl (Or.inr (Or.inl ⟨_, rfl⟩)) ?_
      refine ew_iload_n (M := mX10_noise) dX10_noise_57 rfl ?_
      refine ew_iload (M := mX10_noise) dX10_noise_58 rfl ?_
      refine ew_iload (M := mX10_noise) dX10_noise_60 rfl ?_
      refine ew_if_ne (M := mX10_noise) (tgt := 69) dX10_noise_62 rfl (fun c62 => ?_) (fun c62 => ?_)
      · rw [nI_z (by omega)] at c62
        refine ew_iload (M := mX10_noise) dX10_noise_69 rfl ?_
        refine ew_iconst (M := mX10_noise) dX10_noise_71 (v := nI 1) (by decide) ?_
        refine ew_icmp_ne (M := mX10_noise) (tgt := 81) dX10_noise_72 rfl (fun c72 => ?_) (fun c72 => ?_)
        · rw [nI_eq (by omega) (by decide)] at c72
          refine ew_aload_n (M := mX10_noise) dX10_noise_81 rfl (Or.inr (Or.inl ⟨_, rfl⟩)) ?_
          refine ew_sipush (M := mX10_noise) dX10_noise_82 (v := nI 256) (by decide) ?_
          refine ew_callV (M := mX10_noise) dX10_noise_85 vX10_216 (by repeat (first | with_reducible assumption | refine ex_eq ?_ | refine ex_ne ?_ (by omega) | exact ex_lt (by with_reducible assumption) | rw [List.length_set] | assumption)) rfl (ms_draw hE3 (n := 256) (by omega) (by omega)) rfl (Nat.le_of_ble_eq_true rfl) ⟨Nat.le_refl _, Nat.le_refl _⟩ rfl (fun H85 r85 q85 => ?_)
          obtain ⟨X4, Y4, hX4, hY4, rfl, hd4, hE4⟩ := q85
          have k5 := hE4.1
          change X4 = sn X3 at hX4
          change Y4 = dr X3 256 at hY4
          have l4 : Y4 < 256 := by rw [hY4]; exact dr_lt (by omega)
          refine ew_callV (M := mX10_noise) dX10_noise_88 vX10_160 (by repeat (first | with_reducible assumption | refine ex_eq ?_ | refine ex_ne ?_ (by omega) | exact ex_lt (by with_reducible assumption) | rw [List.length_set] | assumption)) rfl (ms_setGrey hE4 l1 l2 l4) rfl (Nat.le_of_ble_eq_true rfl) ⟨Nat.le_refl _, Nat.le_refl _⟩ rfl (fun H88 r88 q88 => ?_)
          obtain ⟨rfl, hc9, hS9⟩ := q88
          refine ew_iinc (M := mX10_noise) dX10_noise_91 rfl (ex_inc t) (by decide) rfl ?_
          refine ew_goto (M := mX10_noise) (tgt := 17) dX10_noise_94 rfl ?_
          have en : nstep S2 = s_now (s_rem S2) ((spk S2.2.2.1.1 S2.2.2.1.2.2.2).1, S2.2.2.1.2.1, S2.2.2.1.2.2.1, (spk S2.2.2.1.1 S2.2.2.1.2.2.2).2) := rfl
          unfold spk at en
          simp only [← hX1, ← hX2, ← hX3, ← hY1, ← hY2, ← hY3, ← hX4, ← hY4] at en
          rw [if_neg c62, if_neg c72] at en
          rw [en] at k
          refine ew_ls _ ?_ (k _ ((((((hc2.tr hc3 (mL_sub (by decide))).tr hd1 (mL_sub (by decide))).tr hd2 (mL_sub (by decide))).tr hd3 (mL_sub (by decide))).tr hd4 (mL_sub (by decide))).tr hc9 (mL_sub (by decide))) hS9)
          exact ⟨rfl, rfl, rfl, trivial⟩
        · rw [nI_eq (by omega) (by decide)] at c72
          refine ew_sipush (M := mX10_noise) dX10_noise_75 (v := nI 255) (by decide) ?_
          refine ew_goto (M := mX10_noise) (tgt := 88) dX10_noise_78 rfl ?_
          refine ew_callV (M := mX10_noise) dX10_noise_88 vX10_160 (by repeat (first | with_reducible assumption | refine ex_eq ?_ | refine ex_ne ?_ (by omega) | exact ex_lt (by with_reducible assumption) | rw [List.length_set] | assumption)) rfl (ms_setGrey hE3 l1 l2 (by decide)) rfl (Nat.le_of_ble_eq_true rfl) ⟨Nat.le_refl _, Nat.le_refl _⟩ rfl (fun H88 r88 q88 => ?_)
          obtain ⟨rfl, hc9, hS9⟩ := q88
          refine ew_iinc (M := mX10_noise) dX10_noise_91 rfl (ex_inc t) (by decide) rfl ?_
          refine ew_goto (M := mX10_noise) (tgt := 17) dX10_noise_94 rfl ?_
          have en : nstep S2 = s_now (s_rem S2) ((spk S2.2.2.1.1 S2.2.2.1.2.2.2).1, S2.2.2.1.2.1, S2.2.2.1.2.2.1, (spk S2.2.2.1.1 S2.2.2.1.2.2.2).2) := rfl
          unfold spk at en
          simp only [← hX1, ← hX2, ← hX3, ← hY1, ← hY2, ← hY3] at en
          rw [if_neg c62, if_pos c72] at en
          rw [en] at k
          refine ew_ls _ ?_ (k _ (((((hc2.tr hc3 (mL_sub (by decide))).tr hd1 (mL_sub (by decide))).tr hd2 (mL_sub (by decide))).tr hd3 (mL_sub (by decide))).tr hc9 (mL_sub (by decide))) hS9)
          exact ⟨rfl, rfl, rfl, trivial⟩
      · rw [nI_z (by omega)] at c62
        refine ew_iconst (M := mX10_noise) dX10_noise_65 (v := nI 0) (by decide) ?_
        refine ew_goto (M := mX10_noise) (tgt := 88) dX10_noise_66 rfl ?_
        refine ew_callV (M := mX10_noise) dX10_noise_88 vX10_160 (by repeat (first | with_reducible assumption | refine ex_eq ?_ | refine ex_ne ?_ (by omega) | exact ex_lt (by with_reducible assumption) | rw [List.length_set] | assumption)) rfl (ms_setGrey hE3 l1 l2 (by decide)) rfl (Nat.le_of_ble_eq_true rfl) ⟨Nat.le_refl _, Nat.le_refl _⟩ rfl (fun H88 r88 q88 => ?_)
        obtain ⟨rfl, hc9, hS9⟩ := q88
        refine ew_iinc (M := mX10_noise) dX10_noise_91 rfl (ex_inc t) (by decide) rfl ?_
        refine ew_goto (M := mX10_noise) (tgt := 17) dX10_noise_94 rfl ?_
        have en : nstep S2 = s_now (s_rem S2) ((spk S2.2.2.1.1 S2.2.2.1.2.2.2).1, S2.2.2.1.2.1, S2.2.2.1.2.2.1, (spk S2.2.2.1.1 S2.2.2.1.2.2.2).2) := rfl
        unfold spk at en
        simp only [← hX1, ← hX2, ← hX3, ← hY1, ← hY2, ← hY3] at en
        rw [if_pos c62] at en
        rw [en] at k
        refine ew_ls _ ?_ (k _ (((((hc2.tr hc3 (mL_sub (by decide))).tr hd1 (mL_sub (by decide))).tr hd2 (mL_sub (by decide))).tr hd3 (mL_sub (by decide))).tr hc9 (mL_sub (by decide))) hS9)
        exact ⟨rfl, rfl, rfl, trivial⟩
    · intro H2 hc2 hS2
      have b1 := hS2.1
      refine ew_iload_n (M := mX10_noise) dX10_noise_17 rfl ?_
      refine ew_iload_n (M := mX10_noise) dX10_noise_18 rfl ?_
      refine ew_icmp_ge (M := mX10_noise) (tgt := 97) dX10_noise_19 rfl (fun _ => ?_) (fun h => absurd (nI_le (Nat.le_refl _) (by omega)) h)
      refine ew_aload_n (M := mX10_noise) dX10_noise_97 rfl (Or.inr (Or.inl ⟨_, rfl⟩)) ?_
      refine ew_get (M := mX10_noise) dX10_noise_98 fX10_204 (by repeat (first | with_reducible assumption | refine ex_eq ?_ | refine ex_ne ?_ (by omega) | exact ex_lt (by with_reducible assumption) | rw [List.length_set] | assumption)) (by rfl) ?_
      refine ew_iret (M := mX10_noise) dX10_noise_101 rfl (by first | rfl | decide) (Nat.le_refl _) (Nat.le_refl _) ?_
      exact ⟨rfl, hc2, _, _, _, _, hS2⟩
  · have ef : f_noise S n = (-1000000002, S) := by
      unfold f_noise
      rw [cif_n hx]
    refine ex_meth [(0, .ref 86), (1, .int n)] rfl rfl rfl (fun b => Nat.le_of_ble_eq_true rfl) ?_
    refine ew_iload_n (M := mX10_noise) dX10_noise_0 rfl ?_
    refine ew_i2l (M := mX10_noise) dX10_noise_1 ?_
    refine ew_lconst (M := mX10_noise) dX10_noise_2 (v := 1) (by decide) ?_
    refine ew_ldc2 (M := mX10_noise) dX10_noise_3 kX10_214 ?_
    refine ew_callS (M := mX10_noise) dX10_noise_6 vX10_58 (ms_in_n (l := nI 1) (g := nI 12) (by decide) (by decide) hx) rfl (Nat.le_of_ble_eq_true rfl) ⟨Nat.le_refl _, Nat.le_refl _⟩ rfl (fun H6 r6 q6 => ?_)
    obtain ⟨rfl, rfl⟩ := q6
    refine ew_if_ne (M := mX10_noise) (tgt := 15) dX10_noise_9 rfl (fun h => absurd (by decide) h) (fun _ => ?_)
    refine ew_ldc (M := mX10_noise) dX10_noise_12 kX10_110 ?_
    refine ew_iret (M := mX10_noise) dX10_noise_14 rfl (by first | rfl | decide) (Nat.le_refl _) (Nat.le_refl _) ?_
    exact ⟨by rw [ef], ex_ch.rf, by rw [ef]; exact ⟨_, _, _, _, hS⟩⟩
