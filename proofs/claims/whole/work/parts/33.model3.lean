theorem ms_masked {d : Nat} {H : ex_H} {S : SS} {R : Int32 × Int32 × Int32 × Int32} {mn : Int32} {C N : Nat → Int32} (hS : mo_at H S R mn C N) : ex_Met mX10_masked (d + 2) 0 0 H [.ref 86] (ex_r H (.int (nI (pm_masked S.2.2.1.1.1 S.2.2.1.1.2.1 S.2.2.1.1.2.2.2)))) := by
  obtain ⟨a1, ⟨hfi, hsd, hkp⟩, ⟨W, a2, hw0, ⟨hcn, hwh⟩, hwi⟩, ⟨T, a3, htn, htx⟩, ⟨F, a4, hfl⟩, ⟨IF, IL, IS, a5, a6, a7, him⟩, ⟨BX, BY, BG, a8, a9, a10, hbn, hbk⟩, a11, a12⟩ := id hS
  obtain ⟨⟨⟨hz1, hz2, hz3, hz4⟩, hgm⟩, hW0, hW1, hWd⟩ := id hw0
  have hW1 : W 1 = nI S.2.2.1.1.2.1 := hW1
  have e : pm_masked S.2.2.1.1.1 S.2.2.1.1.2.1 S.2.2.1.1.2.2.2 = fl (fun j s => fl (fun i => (fun k n => if S.2.2.1.1.2.2.2 k = 0 then n else n + 1) (j * S.2.2.1.1.1 + i)) S.2.2.1.1.1 s) S.2.2.1.1.2.1 0 := fl_rows _ _ _ _
  rw [e]
  refine ex_meth [(0, .ref 86)] rfl rfl rfl (fun b => Nat.le_of_ble_eq_true rfl) ?_
  refine ew_iconst (M := mX10_masked) dX10_masked_0 (v := nI 0) (by decide) ?_
  refine ew_istore_n (M := mX10_masked) dX10_masked_1 (by decide) rfl ?_
  refine ew_iconst (M := mX10_masked) dX10_masked_2 (v := nI 0) (by decide) ?_
  refine ew_istore_n (M := mX10_masked) dX10_masked_3 (by decide) rfl ?_
  refine ew_ls [(0, .ref 86), (1, .int (nI 0)), (2, .int (nI 0))] ⟨rfl, rfl, rfl, trivial⟩ ?_
  refine fl_down (F := fun j s => fl (fun i => (fun k n => if S.2.2.1.1.2.2.2 k = 0 then n else n + 1) (j * S.2.2.1.1.1 + i)) S.2.2.1.1.1 s) (P := fun j s => ex_W mX10_masked (d + 2) 0 0 _ H 4 [(0, .ref 86), (1, .int (nI s)), (2, .int (nI j))] [] 0 0) S.2.2.1.1.2.1 0 (fun j s hj _ ko => ?_) ?_
  · refine ew_iload_n (M := mX10_masked) dX10_masked_4 rfl ?_
    refine ew_aload_n (M := mX10_masked) dX10_masked_5 rfl (Or.inr (Or.inl ⟨_, rfl⟩)) ?_
    refine ew_get (M := mX10_masked) dX10_masked_6 fX10_7 (by repeat (first | with_reducible assumption | refine ex_eq ?_ | refine ex_ne ?_ (by omega) | exact ex_lt (by with_reducible assumption) | rw [List.length_set] | assumption)) (by rfl) ?_
    refine ew_iconst (M := mX10_masked) dX10_masked_9 (v := nI 1) (by decide) ?_
    refine ew_iald (M := mX10_masked) 1 dX10_masked_10 (by repeat (first | with_reducible assumption | refine ex_eq ?_ | refine ex_ne ?_ (by omega) | exact ex_lt (by with_reducible assumption) | rw [List.length_set] | assumption)) ⟨rfl, by decide, by decide⟩ ?_
    rw [hW1]
    refine ew_icmp_ge (M := mX10_masked) (tgt := 55) dX10_masked_11 rfl (fun h => absurd h (nI_ge hj (by omega))) (fun _ => ?_)
    refine ew_iconst (M := mX10_masked) dX10_masked_14 (v := nI 0) (by decide) ?_
    refine ew_istore_n (M := mX10_masked) dX10_masked_15 (by decide) rfl ?_
    refine ew_ls [(0, .ref 86), (1, .int (nI s)), (2, .int (nI j)), (3, .int (nI 0))] ⟨rfl, rfl, rfl, rfl, trivial⟩ ?_
    refine fl_down (F := fun i => (fun k n => if S.2.2.1.1.2.2.2 k = 0 then n else n + 1) (j * S.2.2.1.1.1 + i)) (P := fun i s => ex_W mX10_masked (d + 2) 0 0 _ H 16 [(0, .ref 86), (1, .int (nI s)), (2, .int (nI j)), (3, .int (nI i))] [] 0 0) S.2.2.1.1.1 s (fun i s hi _ ki => ?_) ?_
    · refine ew_iload_n (M := mX10_masked) dX10_masked_16 rfl ?_
      refine ew_aload_n (M := mX10_masked) dX10_masked_17 rfl (Or.inr (Or.inl ⟨_, rfl⟩)) ?_
      refine ew_get (M := mX10_masked) dX10_masked_18 fX10_7 (by repeat (first | with_reducible assumption | refine ex_eq ?_ | refine ex_ne ?_ (by omega) | exact ex_lt (by with_reducible assumption) | rw [List.length_set] | assumption)) (by rfl) ?_
      refine ew_iconst (M := mX10_masked) dX10_masked_21 (v := nI 0) (by decide) ?_
      refine ew_iald (M := mX10_masked) 0 dX10_masked_22 (by repeat (first | with_reducible assumption | refine ex_eq ?_ | refine ex_ne ?_ (by omega) | exact ex_lt (by with_reducible assumption) | rw [List.length_set] | assumption)) ⟨rfl, by decide, by decide⟩ ?_
      rw [hW0]
      refine ew_icmp_ge (M := mX10_masked) (tgt := 49) dX10_masked_23 rfl (fun h => absurd h (nI_ge hi (by omega))) (fun _ => ?_)
      refine ew_iload_n (M := mX10_masked) dX10_masked_26 rfl ?_
      refine ew_aload_n (M := mX10_masked) dX10_masked_27 rfl (Or.inr (Or.inl ⟨_, rfl⟩)) ?_
      refine ew_iload_n (M := mX10_masked) dX10_masked_28 rfl ?_
      refine ew_iload_n (M := mX10_masked) dX10_masked_29 rfl ?_
      refine ew_callV (M := mX10_masked) dX10_masked_30 vX10_62 (by repeat (first | with_reducible assumption | refine ex_eq ?_ | refine ex_ne ?_ (by omega) | exact ex_lt (by with_reducible assumption) | rw [List.length_set] | assumption)) rfl (ms_isMasked hS hi hj) rfl (Nat.le_of_ble_eq_true rfl) ⟨Nat.le_refl _, Nat.le_refl _⟩ rfl (fun H30 r30 q30 => ?_)
      obtain ⟨rfl, rfl⟩ := q30
      refine ew_if_eq (M := mX10_masked) (tgt := 40) dX10_masked_33 rfl (fun c33 => ?_) (fun c33 => ?_)
      · rw [nI_z (by have := hgm _ (pi_lt hi hj); omega)] at c33
        simp only [c33, ↓reduceIte] at ki
        refine ew_iconst (M := mX10_masked) dX10_masked_40 (v := nI 0) (by decide) ?_
        refine ew_iadd (M := mX10_masked) dX10_masked_41 ?_
        rw [nI_add]
        refine ew_istore_n (M := mX10_masked) dX10_masked_42 (by decide) rfl ?_
        refine ew_iinc (M := mX10_masked) dX10_masked_43 rfl (ex_inc i) (by decide) rfl ?_
        refine ew_goto (M := mX10_masked) (tgt := 16) dX10_masked_46 rfl ?_
        refine ew_ls _ ?_ ki
        exact ⟨rfl, rfl, rfl, rfl, trivial⟩
      · rw [nI_z (by have := hgm _ (pi_lt hi hj); omega)] at c33
        simp only [c33, ↓reduceIte] at ki
        refine ew_iconst (M := mX10_masked) dX10_masked_36 (v := nI 1) (by decide) ?_
        refine ew_goto (M := mX10_masked) (tgt := 41) dX10_masked_37 rfl ?_
        refine ew_iadd (M := mX10_masked) dX10_masked_41 ?_
        rw [nI_add]
        refine ew_istore_n (M := mX10_masked) dX10_masked_42 (by decide) rfl ?_
        refine ew_iinc (M := mX10_masked) dX10_masked_43 rfl (ex_inc i) (by decide) rfl ?_
        refine ew_goto (M := mX10_masked) (tgt := 16) dX10_masked_46 rfl ?_
        refine ew_ls _ ?_ ki
        exact ⟨rfl, rfl, rfl, rfl, trivial⟩
    · refine ew_iload_n (M := mX10_masked) dX10_masked_16 rfl ?_
      refine ew_aload_n (M := mX10_masked) dX10_masked_17 rfl (Or.inr (Or.inl ⟨_, rfl⟩)) ?_
      refine ew_get (M := mX10_masked) dX10_masked_18 fX10_7 (by repeat (first | with_reducible assumption | refine ex_eq ?_ | refine ex_ne ?_ (by omega) | exact ex_lt (by with_reducible assumption) | rw [List.length_set] | assumption)) (by rfl) ?_
      refine ew_iconst (M := mX10_masked) dX10_masked_21 (v := nI 0) (by decide) ?_
      refine ew_iald (M := mX10_masked) 0 dX10_masked_22 (by repeat (first | with_reducible assumption | refine ex_eq ?_ | refine ex_ne ?_ (by omega) | exact ex_lt (by with_reducible assumption) | rw [List.length_set] | assumption)) ⟨rfl, by decide, by decide⟩ ?_
      rw [hW0]
      refine ew_icmp_ge (M := mX10_masked) (tgt := 49) dX10_masked_23 rfl (fun _ => ?_) (fun h => absurd (nI_le (Nat.le_refl _) (by omega)) h)
      refine ew_iinc (M := mX10_masked) dX10_masked_49 rfl (ex_inc j) (by decide) rfl ?_
      refine ew_goto (M := mX10_masked) (tgt := 4) dX10_masked_52 rfl ?_
      refine ew_ls _ ?_ ko
      exact ⟨rfl, rfl, rfl, trivial⟩
  · refine ew_iload_n (M := mX10_masked) dX10_masked_4 rfl ?_
    refine ew_aload_n (M := mX10_masked) dX10_masked_5 rfl (Or.inr (Or.inl ⟨_, rfl⟩)) ?_
    refine ew_get (M := mX10_masked) dX10_masked_6 fX10_7 (by repeat (first | with_reducible assumption | refine ex_eq ?_ | refine ex_ne ?_ (by omega) | exact ex_lt (by with_reducible assumption) | rw [List.length_set] | assumption)) (by rfl) ?_
    refine ew_iconst (M := mX10_masked) dX10_masked_9 (v := nI 1) (by decide) ?_
    refine ew_iald (M := mX10_masked) 1 dX10_masked_10 (by repeat (first | with_reducible assumption | refine ex_eq ?_ | refine ex_ne ?_ (by omega) | exact ex_lt (by with_reducible assumption) | rw [List.length_set] | assumption)) ⟨rfl, by decide, by decide⟩ ?_
    rw [hW1]
    refine ew_icmp_ge (M := mX10_masked) (tgt := 55) dX10_masked_11 rfl (fun _ => ?_) (fun h => absurd (nI_le (Nat.le_refl _) (by omega)) h)
    refine ew_iload_n (M := mX10_masked) dX10_masked_55 rfl ?_
    refine ew_iret (M := mX10_masked) dX10_masked_56 rfl (by first | rfl | decide) (Nat.le_refl _) (Nat.le_refl _) ?_
    exact ⟨rfl, rfl⟩
theorem og_eq {g m : Nat → Nat} (n : Nat) (h : ∀ k, k < n → g k < 256) : fl (fun k (s : Int32 × Int32 × Int32) => if m k = 0 then ((if s.1 < 0 ∨ nI (g k) < s.1 then nI (g k) else s.1), (if nI (g k) ≤ s.2.1 then s.2.1 else nI (g k)), s.2.2 + nI (g k)) else s) n (-1, -1, nI 0) = (fl (fun k (s : Int32) => if m k = 0 then (if s = -1 then nI (g k) else if nI (g k) < s then nI (g k) else s) else s) n (-1), fl (fun k (s : Int32) => if m k = 0 then (if nI (g k) ≤ s then s else nI (g k)) else s) n (-1), fl (fun k (s : Int32) => if m k = 0 then s + nI (g k) else s) n (nI 0)) ∧ ∀ q, q = fl (fun k (s : Int32) => if m k = 0 then (if s = -1 then nI (g k) else if nI (g k) < s then nI (g k) else s) else s) n (-1) → q = -1 ∨ ¬ q < 0 := by
  induction n with
  | zero => exact ⟨rfl, fun q e => Or.inl e⟩
  | succ n ih =>
    obtain ⟨ih1, ih2⟩ := ih (fun k hk => h k (by omega))
    have hg := h n (by omega)
    have ih3 := ih2 _ rfl
    simp only [fl]
    rw [ih1]
    generalize fl (fun k (s : Int32) => if m k = 0 then (if s = -1 then nI (g k) else if nI (g k) < s then nI (g k) else s) else s) n (-1) = a at ih3 ⊢
    by_cases hm : m n = 0
    · simp only [hm, ↓reduceIte]
      rcases ih3 with rfl | ih3
      · refine ⟨?_, fun q e => ?_⟩
        · rw [if_pos (Or.inl (by decide)), if_pos rfl]
        · rw [if_pos rfl] at e
          exact Or.inr (by rw [e]; exact nI_pos (by omega))
      · have hn : ¬ a = -1 := fun e => ih3 (by rw [e]; decide)
        rw [if_neg hn]
        by_cases hl : nI (g n) < a
        · rw [if_pos (Or.inr hl), if_pos hl]
          exact ⟨rfl, fun q e => Or.inr (by rw [e]; exact nI_pos (by omega))⟩
        · rw [if_neg (fun q => q.elim ih3 hl), if_neg hl]
          exact ⟨rfl, fun q e => Or.inr (by rw [e]; exact ih3)⟩
    · simp only [hm, ↓reduceIte]
      exact ⟨trivial, fun q e => by rw [e]; exact ih3⟩
def ogV (P : PT) (x : Int32) : Int32 := if x = nI 3 then pm_least P.1 P.2.1 P.2.2.1 P.2.2.2 else if x = nI 4 then pm_most P.1 P.2.1 P.2.2.1 P.2.2.2 else pm_sum P.1 P.2.1 P.2.2.1 P.2.2.2
theorem ms_ofGreys {d : Nat} {H : ex_H} {S : SS} {R : Int32 × Int32 × Int32 × Int32} {mn : Int32} {C N : Nat → Int32} (hS : mo_at H S R mn C N) {x : Int32} : ex_Met mX10_ofGreys (d + 2) 0 0 H [.ref 86, .int x] (ex_r H (.int (ogV S.2.2.1.1 x))) := by
  obtain ⟨a1, ⟨hfi, hsd, hkp⟩, ⟨W, a2, hw0, ⟨hcn, hwh⟩, hwi⟩, ⟨T, a3, htn, htx⟩, ⟨F, a4, hfl⟩, ⟨IF, IL, IS, a5, a6, a7, him⟩, ⟨BX, BY, BG, a8, a9, a10, hbn, hbk⟩, a11, a12⟩ := id hS
  obtain ⟨⟨⟨hz1, hz2, hz3, hz4⟩, hgm⟩, hW0, hW1, hWd⟩ := id hw0
  have hW1 : W 1 = nI S.2.2.1.1.2.1 := hW1
  have e := (og_eq (g := S.2.2.1.1.2.2.1) (m := S.2.2.1.1.2.2.2) (S.2.2.1.1.1 * S.2.2.1.1.2.1) (fun k hk => (hgm k hk).1)).1
  rw [fl_rows] at e
  refine ex_meth [(0, .ref 86), (1, .int x)] rfl rfl rfl (fun b => Nat.le_of_ble_eq_true rfl) ?_
  refine ew_iconst (M := mX10_ofGreys) dX10_ofGreys_0 (v := (-1)) (by decide) ?_
  refine ew_istore_n (M := mX10_ofGreys) dX10_ofGreys_1 (by decide) rfl ?_
  refine ew_iconst (M := mX10_ofGreys) dX10_ofGreys_2 (v := (-1)) (by decide) ?_
  refine ew_istore_n (M := mX10_ofGreys) dX10_ofGreys_3 (by decide) rfl ?_
  refine ew_iconst (M := mX10_ofGreys) dX10_ofGreys_4 (v := nI 0) (by decide) ?_
  refine ew_istore (M := mX10_ofGreys) dX10_ofGreys_5 (by decide) rfl ?_
  refine ew_iconst (M := mX10_ofGreys) dX10_ofGreys_7 (v := nI 0) (by decide) ?_
  refine ew_istore (M := mX10_ofGreys) dX10_ofGreys_8 (by decide) rfl ?_
  refine ew_ls [(0, .ref 86), (1, .int x), (2, .int ((-1, -1, nI 0) : Int32 × Int32 × Int32).1), (3, .int ((-1, -1, nI 0) : Int32 × Int32 × Int32).2.1), (4, .int ((-1, -1, nI 0) : Int32 × Int32 × Int32).2.2), (5, .int (nI 0))] ⟨rfl, rfl, rfl, rfl, rfl, rfl, trivial⟩ ?_
  refine fl_down (F := fun j s => fl (fun i => (fun k (s : Int32 × Int32 × Int32) => if S.2.2.1.1.2.2.2 k = 0 then ((if s.1 < 0 ∨ nI (S.2.2.1.1.2.2.1 k) < s.1 then nI (S.2.2.1.1.2.2.1 k) else s.1), (if nI (S.2.2.1.1.2.2.1 k) ≤ s.2.1 then s.2.1 else nI (S.2.2.1.1.2.2.1 k)), s.2.2 + nI (S.2.2.1.1.2.2.1 k)) else s) (j * S.2.2.1.1.1 + i)) S.2.2.1.1.1 s) (P := fun j s => ex_W mX10_ofGreys (d + 2) 0 0 _ H 10 [(0, .ref 86), (1, .int x), (2, .int s.1), (3, .int s.2.1), (4, .int s.2.2), (5, .int (nI j))] [] 0 0) S.2.2.1.1.2.1 ((-1, -1, nI 0) : Int32 × Int32 × Int32) (fun j s hj _ ko => ?_) ?_
  · refine ew_iload (M := mX10_ofGreys) dX10_ofGreys_10 rfl ?_
    refine ew_aload_n (M := mX10_ofGreys) dX10_ofGreys_12 rfl (Or.inr (Or.inl ⟨_, rfl⟩)) ?_
    refine ew_get (M := mX10_ofGreys) dX10_ofGreys_13 fX10_7 (by repeat (first | with_reducible assumption | refine ex_eq ?_ | refine ex_ne ?_ (by omega) | exact ex_lt (by with_reducible assumption) | rw [List.length_set] | assumption)) (by rfl) ?_
    refine ew_iconst (M := mX10_ofGreys) dX10_ofGreys_16 (v := nI 1) (by decide) ?_
    refine ew_iald (M := mX10_ofGreys) 1 dX10_ofGreys_17 (by repeat (first | with_reducible assumption | refine ex_eq ?_ | refine ex_ne ?_ (by omega) | exact ex_lt (by with_reducible assumption) | rw [List.length_set] | assumption)) ⟨rfl, by decide, by decide⟩ ?_
    rw [hW1]
    refine ew_icmp_ge (M := mX10_ofGreys) (tgt := 105) dX10_ofGreys_18 rfl (fun h => absurd h (nI_ge hj (by omega))) (fun _ => ?_)
    refine ew_iconst (M := mX10_ofGreys) dX10_ofGreys_21 (v := nI 0) (by decide) ?_
    refine ew_istore (M := mX10_ofGreys) dX10_ofGreys_22 (by decide) rfl ?_
    refine ew_ls [(0, .ref 86), (1, .int x), (2, .int s.1), (3, .int s.2.1), (4, .int s.2.2), (5, .int (nI j)), (6, .int (nI 0))] ⟨rfl, rfl, rfl, rfl, rfl, rfl, rfl, trivial⟩ ?_
    refine fl_down (F := fun i => (fun k (s : Int32 × Int32 × Int32) => if S.2.2.1.1.2.2.2 k = 0 then ((if s.1 < 0 ∨ nI (S.2.2.1.1.2.2.1 k) < s.1 then nI (S.2.2.1.1.2.2.1 k) else s.1), (if nI (S.2.2.1.1.2.2.1 k) ≤ s.2.1 then s.2.1 else nI (S.2.2.1.1.2.2.1 k)), s.2.2 + nI (S.2.2.1.1.2.2.1 k)) else s) (j * S.2.2.1.1.1 + i)) (P := fun i s => ex_W mX10_ofGreys (d + 2) 0 0 _ H 24 [(0, .ref 86), (1, .int x), (2, .int s.1), (3, .int s.2.1), (4, .int s.2.2), (5, .int (nI j)), (6, .int (nI i))] [] 0 0) S.2.2.1.1.1 s (fun i s hi _ ki => ?_) ?_
    · have hm2 := hgm _ (pi_lt hi hj)
      by_cases hm : S.2.2.1.1.2.2.2 (j * S.2.2.1.1.1 + i) = 0
      · simp only [hm, ↓reduceIte] at ki
        refine ew_iload (M := mX10_ofGreys) dX10_ofGreys_24 rfl ?_
        refine ew_aload_n (M := mX10_ofGreys) dX10_ofGreys_26 rfl (Or.inr (Or.inl ⟨_, rfl⟩)) ?_
        refine ew_get (M := mX10_ofGreys) dX10_ofGreys_27 fX10_7 (by repeat (first | with_reducible assumption | refine ex_eq ?_ | refine ex_ne ?_ (by omega) | exact ex_lt (by with_reducible assumption) | rw [List.length_set] | assumption)) (by rfl) ?_
        refine ew_iconst (M := mX10_ofGreys) dX10_ofGreys_30 (v := nI 0) (by decide) ?_
        refine ew_iald (M := mX10_ofGreys) 0 dX10_ofGreys_31 (by repeat (first | with_reducible assumption | refine ex_eq ?_ | refine ex_ne ?_ (by omega) | exact ex_lt (by with_reducible assumption) | rw [List.length_set] | assumption)) ⟨rfl, by decide, by decide⟩ ?_
        rw [hW0]
        refine ew_icmp_ge (M := mX10_ofGreys) (tgt := 99) dX10_ofGreys_32 rfl (fun h => absurd h (nI_ge hi (by omega))) (fun _ => ?_)
        refine ew_aload_n (M := mX10_ofGreys) dX10_ofGreys_35 rfl (Or.inr (Or.inl ⟨_, rfl⟩)) ?_
        refine ew_iload (M := mX10_ofGreys) dX10_ofGreys_36 rfl ?_
        refine ew_iload (M := mX10_ofGreys) dX10_ofGreys_38 rfl ?_
        refine ew_callV (M := mX10_ofGreys) dX10_ofGreys_40 vX10_62 (by repeat (first | with_reducible assumption | refine ex_eq ?_ | refine ex_ne ?_ (by omega) | exact ex_lt (by with_reducible assumption) | rw [List.length_set] | assumption)) rfl (ms_isMasked hS hi hj) rfl (Nat.le_of_ble_eq_true rfl) ⟨Nat.le_refl _, Nat.le_refl _⟩ rfl (fun H40 r40 q40 => ?_)
        obtain ⟨rfl, rfl⟩ := q40
        rw [hm]
        refine ew_if_ne (M := mX10_ofGreys) (tgt := 93) dX10_ofGreys_43 rfl (fun h => absurd rfl h) (fun _ => ?_)
        refine ew_aload_n (M := mX10_ofGreys) dX10_ofGreys_46 rfl (Or.inr (Or.inl ⟨_, rfl⟩)) ?_
        refine ew_iload (M := mX10_ofGreys) dX10_ofGreys_47 rfl ?_
        refine ew_iload (M := mX10_ofGreys) dX10_ofGreys_49 rfl ?_
        refine ew_callV (M := mX10_ofGreys) dX10_ofGreys_51 vX10_137 (by repeat (first | with_reducible assumption | refine ex_eq ?_ | refine ex_ne ?_ (by omega) | exact ex_lt (by with_reducible assumption) | rw [List.length_set] | assumption)) rfl (ms_grey hS hi hj) rfl (Nat.le_of_ble_eq_true rfl) ⟨Nat.le_refl _, Nat.le_refl _⟩ rfl (fun H51 r51 q51 => ?_)
        obtain ⟨rfl, rfl⟩ := q51
        refine ew_istore (M := mX10_ofGreys) dX10_ofGreys_54 (by decide) rfl ?_
        refine ew_iload_n (M := mX10_ofGreys) dX10_ofGreys_56 rfl ?_
        refine ew_if_lt (M := mX10_ofGreys) (tgt := 66) dX10_ofGreys_57 rfl (fun c57 => ?_) (fun c57 => ?_)
        · refine ew_iload (M := mX10_ofGreys) dX10_ofGreys_66 rfl ?_
          refine ew_goto (M := mX10_ofGreys) (tgt := 72) dX10_ofGreys_68 rfl ?_
          refine ew_istore_n (M := mX10_ofGreys) dX10_ofGreys_72 (by decide) rfl ?_
          refine ew_iload (M := mX10_ofGreys) dX10_ofGreys_73 rfl ?_
          refine ew_iload_n (M := mX10_ofGreys) dX10_ofGreys_75 rfl ?_
          refine ew_icmp_le (M := mX10_ofGreys) (tgt := 84) dX10_ofGreys_76 rfl (fun c76 => ?_) (fun c76 => ?_)
          · refine ew_iload_n (M := mX10_ofGreys) dX10_ofGreys_84 rfl ?_
            refine ew_istore_n (M := mX10_ofGreys) dX10_ofGreys_85 (by decide) rfl ?_
            refine ew_iload (M := mX10_ofGreys) dX10_ofGreys_86 rfl ?_
            refine ew_iload (M := mX10_ofGreys) dX10_ofGreys_88 rfl ?_
            refine ew_iadd (M := mX10_ofGreys) dX10_ofGreys_90 ?_
            refine ew_istore (M := mX10_ofGreys) dX10_ofGreys_91 (by decide) rfl ?_
            refine ew_iinc (M := mX10_ofGreys) dX10_ofGreys_93 rfl (ex_inc i) (by decide) rfl ?_
            refine ew_goto (M := mX10_ofGreys) (tgt := 24) dX10_ofGreys_96 rfl ?_
            first | (have c63' : nI (S.2.2.1.1.2.2.1 (j * S.2.2.1.1.1 + i)) < s.1 := Int32.not_le.mp c63) | (have c63' : ¬ nI (S.2.2.1.1.2.2.1 (j * S.2.2.1.1.1 + i)) < s.1 := Int32.not_lt.mpr c63) | (have c63' := True.intro)
            simp only [c57, true_or, false_or, ↓reduceIte] at ki
            try simp only [c63', ↓reduceIte] at ki
            simp only [c76, ↓reduceIte] at ki
            refine ew_ls _ ?_ ki
            exact ⟨rfl, rfl, rfl, rfl, rfl, rfl, rfl, trivial⟩
          · refine ew_iload (M := mX10_ofGreys) dX10_ofGreys_79 rfl ?_
            refine ew_goto (M := mX10_ofGreys) (tgt := 85) dX10_ofGreys_81 rfl ?_
            refine ew_istore_n (M := mX10_ofGreys) dX10_ofGreys_85 (by decide) rfl ?_
            refine ew_iload (M := mX10_ofGreys) dX10_ofGreys_86 rfl ?_
            refine ew_iload (M := mX10_ofGreys) dX10_ofGreys_88 rfl ?_
            refine ew_iadd (M := mX10_ofGreys) dX10_ofGreys_90 ?_
            refine ew_istore (M := mX10_ofGreys) dX10_ofGreys_91 (by decide) rfl ?_
            refine ew_iinc (M := mX10_ofGreys) dX10_ofGreys_93 rfl (ex_inc i) (by decide) rfl ?_
            refine ew_goto (M := mX10_ofGreys) (tgt := 24) dX10_ofGreys_96 rfl ?_
            first | (have c63' : nI (S.2.2.1.1.2.2.1 (j * S.2.2.1.1.1 + i)) < s.1 := Int32.not_le.mp c63) | (have c63' : ¬ nI (S.2.2.1.1.2.2.1 (j * S.2.2.1.1.1 + i)) < s.1 := Int32.not_lt.mpr c63) | (have c63' := True.intro)
            simp only [c57, true_or, false_or, ↓reduceIte] at ki
            try simp only [c63', ↓reduceIte] at ki
            simp only [c76, ↓reduceIte] at ki
            refine ew_ls _ ?_ ki
            exact ⟨rfl, rfl, rfl, rfl, rfl, rfl, rfl, trivial⟩
        · refine ew_iload (M := mX10_ofGreys) dX10_ofGreys_60 rfl ?_
          refine ew_iload_n (M := mX10_ofGreys) dX10_ofGreys_62 rfl ?_
          refine ew_icmp_ge (M := mX10_ofGreys) (tgt := 71) dX10_ofGreys_63 rfl (fun c63 => ?_) (fun c63 => ?_)
          · refine ew_iload_n (M := mX10_ofGreys) dX10_ofGreys_71 rfl ?_
            refine ew_istore_n (M := mX10_ofGreys) dX10_ofGreys_72 (by decide) rfl ?_
            refine ew_iload (M := mX10_ofGreys) dX10_ofGreys_73 rfl ?_
            refine ew_iload_n (M := mX10_ofGreys) dX10_ofGreys_75 rfl ?_
            refine ew_icmp_le (M := mX10_ofGreys) (tgt := 84) dX10_ofGreys_76 rfl (fun c76 => ?_) (fun c76 => ?_)
            · refine ew_iload_n (M := mX10_ofGreys) dX10_ofGreys_84 rfl ?_
              refine ew_istore_n (M := mX10_ofGreys) dX10_ofGreys_85 (by decide) rfl ?_
              refine ew_iload (M := mX10_ofGreys) dX10_ofGreys_86 rfl ?_
              refine ew_iload (M := mX10_ofGreys) dX10_ofGreys_88 rfl ?_
              refine ew_iadd (M := mX10_ofGreys) dX10_ofGreys_90 ?_
              refine ew_istore (M := mX10_ofGreys) dX10_ofGreys_91 (by decide) rfl ?_
              refine ew_iinc (M := mX10_ofGreys) dX10_ofGreys_93 rfl (ex_inc i) (by decide) rfl ?_
              refine ew_goto (M := mX10_ofGreys) (tgt := 24) dX10_ofGreys_96 rfl ?_
              first | (have c63' : nI (S.2.2.1.1.2.2.1 (j * S.2.2.1.1.1 + i)) < s.1 := Int32.not_le.mp c63) | (have c63' : ¬ nI (S.2.2.1.1.2.2.1 (j * S.2.2.1.1.1 + i)) < s.1 := Int32.not_lt.mpr c63) | (have c63' := True.intro)
              simp only [c57, true_or, false_or, ↓reduceIte] at ki
              try simp only [c63', ↓reduceIte] at ki
              simp only [c76, ↓reduceIte] at ki
              refine ew_ls _ ?_ ki
              exact ⟨rfl, rfl, rfl, rfl, rfl, rfl, rfl, trivial⟩
            · refine ew_iload (M := mX10_ofGreys) dX10_ofGreys_79 rfl ?_
              refine ew_goto (M := mX10_ofGreys) (tgt := 85) dX10_ofGreys_81 rfl ?_
              refine ew_istore_n (M := mX10_ofGreys) dX10_ofGreys_85 (by decide) rfl ?_
              refine ew_iload (M := mX10_ofGreys) dX10_ofGreys_86 rfl ?_
              refine ew_iload (M := mX10_ofGreys) dX10_ofGreys_88 rfl ?_
              refine ew_iadd (M := mX10_ofGreys) dX10_ofGreys_90 ?_
              refine ew_istore (M := mX10_ofGreys) dX10_ofGreys_91 (by decide) rfl ?_
              refine ew_iinc (M := mX10_ofGreys) dX10_ofGreys_93 rfl (ex_inc i) (by decide) rfl ?_
              refine ew_goto (M := mX10_ofGreys) (tgt := 24) dX10_ofGreys_96 rfl ?_
              first | (have c63' : nI (S.2.2.1.1.2.2.1 (j * S.2.2.1.1.1 + i)) < s.1 := Int32.not_le.mp c63) | (have c63' : ¬ nI (S.2.2.1.1.2.2.1 (j * S.2.2.1.1.1 + i)) < s.1 := Int32.not_lt.mpr c63) | (have c63' := True.intro)
              simp only [c57, true_or, false_or, ↓reduceIte] at ki
              try simp only [c63', ↓reduceIte] at ki
              simp only [c76, ↓reduceIte] at ki
              refine ew_ls _ ?_ ki
              exact ⟨rfl, rfl, rfl, rfl, rfl, rfl, rfl, trivial⟩
          · refine ew_iload (M := mX10_ofGreys) dX10_ofGreys_66 rfl ?_
            refine ew_goto (M := mX10_ofGreys) (tgt := 72) dX10_ofGreys_68 rfl ?_
            refine ew_istore_n (M := mX10_ofGreys) dX10_ofGreys_72 (by decide) rfl ?_
            refine ew_iload (M := mX10_ofGreys) dX10_ofGreys_73 rfl ?_
            refine ew_iload_n (M := mX10_ofGreys) dX10_ofGreys_75 rfl ?_
            refine ew_icmp_le (M := mX10_ofGreys) (tgt := 84) dX10_ofGreys_76 rfl (fun c76 => ?_) (fun c76 => ?_)
            · refine ew_iload_n (M := mX10_ofGreys) dX10_ofGreys_84 rfl ?_
              refine ew_istore_n (M := mX10_ofGreys) dX10_ofGreys_85 (by decide) rfl ?_
              refine ew_iload (M := mX10_ofGreys) dX10_ofGreys_86 rfl ?_
              refine ew_iload (M := mX10_ofGreys) dX10_ofGreys_88 rfl ?_
              refine ew_iadd (M := mX10_ofGreys) dX10_ofGreys_90 ?_
              refine ew_istore (M := mX10_ofGreys) dX10_ofGreys_91 (by decide) rfl ?_
              refine ew_iinc (M := mX10_ofGreys) dX10_ofGreys_93 rfl (ex_inc i) (by decide) rfl ?_
              refine ew_goto (M := mX10_ofGreys) (tgt := 24) dX10_ofGreys_96 rfl ?_
              first | (have c63' : nI (S.2.2.1.1.2.2.1 (j * S.2.2.1.1.1 + i)) < s.1 := Int32.not_le.mp c63) | (have c63' : ¬ nI (S.2.2.1.1.2.2.1 (j * S.2.2.1.1.1 + i)) < s.1 := Int32.not_lt.mpr c63) | (have c63' := True.intro)
              simp only [c57, true_or, false_or, ↓reduceIte] at ki
              try simp only [c63', ↓reduceIte] at ki
              simp only [c76, ↓reduceIte] at ki
              refine ew_ls _ ?_ ki
              exact ⟨rfl, rfl, rfl, rfl, rfl, rfl, rfl, trivial⟩
            · refine ew_iload (M := mX10_ofGreys) dX10_ofGreys_79 rfl ?_
              refine ew_goto (M := mX10_ofGreys) (tgt := 85) dX10_ofGreys_81 rfl ?_
              refine ew_istore_n (M := mX10_ofGreys) dX10_ofGreys_85 (by decide) rfl ?_
              refine ew_iload (M := mX10_ofGreys) dX10_ofGreys_86 rfl ?_
              refine ew_iload (M := mX10_ofGreys) dX10_ofGreys_88 rfl ?_
              refine ew_iadd (M := mX10_ofGreys) dX10_ofGreys_90 ?_
              refine ew_istore (M := mX10_ofGreys) dX10_ofGreys_91 (by decide) rfl ?_
              refine ew_iinc (M := mX10_ofGreys) dX10_ofGreys_93 rfl (ex_inc i) (by decide) rfl ?_
              refine ew_goto (M := mX10_ofGreys) (tgt := 24) dX10_ofGreys_96 rfl ?_
              first | (have c63' : nI (S.2.2.1.1.2.2.1 (j * S.2.2.1.1.1 + i)) < s.1 := Int32.not_le.mp c63) | (have c63' : ¬ nI (S.2.2.1.1.2.2.1 (j * S.2.2.1.1.1 + i)) < s.1 := Int32.not_lt.mpr c63) | (have c63' := True.intro)
              simp only [c57, true_or, false_or, ↓reduceIte] at ki
              try simp only [c63', ↓reduceIte] at ki
              simp only [c76, ↓reduceIte] at ki
              refine ew_ls _ ?_ ki
              exact ⟨rfl, rfl, rfl, rfl, rfl, rfl, rfl, trivial⟩
      · simp only [hm, ↓reduceIte] at ki
        refine ew_iload (M := mX10_ofGreys) dX10_ofGreys_24 rfl ?_
        refine ew_aload_n (M := mX10_ofGreys) dX10_ofGreys_26 rfl (Or.inr (Or.inl ⟨_, rfl⟩)) ?_
        refine ew_get (M := mX10_ofGreys) dX10_ofGreys_27 fX10_7 (by repeat (first | with_reducible assumption | refine ex_eq ?_ | refine ex_ne ?_ (by omega) | exact ex_lt (by with_reducible assumption) | rw [List.length_set] | assumption)) (by rfl) ?_
        refine ew_iconst (M := mX10_ofGreys) dX10_ofGreys_30 (v := nI 0) (by decide) ?_
        refine ew_iald (M := mX10_ofGreys) 0 dX10_ofGreys_31 (by repeat (first | with_reducible assumption | refine ex_eq ?_ | refine ex_ne ?_ (by omega) | exact ex_lt (by with_reducible assumption) | rw [List.length_set] | assumption)) ⟨rfl, by decide, by decide⟩ ?_
        rw [hW0]
        refine ew_icmp_ge (M := mX10_ofGreys) (tgt := 99) dX10_ofGreys_32 rfl (fun h => absurd h (nI_ge hi (by omega))) (fun _ => ?_)
        refine ew_aload_n (M := mX10_ofGreys) dX10_ofGreys_35 rfl (Or.inr (Or.inl ⟨_, rfl⟩)) ?_
        refine ew_iload (M := mX10_ofGreys) dX10_ofGreys_36 rfl ?_
        refine ew_iload (M := mX10_ofGreys) dX10_ofGreys_38 rfl ?_
        refine ew_callV (M := mX10_ofGreys) dX10_ofGreys_40 vX10_62 (by repeat (first | with_reducible assumption | refine ex_eq ?_ | refine ex_ne ?_ (by omega) | exact ex_lt (by with_reducible assumption) | rw [List.length_set] | assumption)) rfl (ms_isMasked hS hi hj) rfl (Nat.le_of_ble_eq_true rfl) ⟨Nat.le_refl _, Nat.le_refl _⟩ rfl (fun H40 r40 q40 => ?_)
        obtain ⟨rfl, rfl⟩ := q40
        refine ew_if_ne (M := mX10_ofGreys) (tgt := 93) dX10_ofGreys_43 rfl (fun _ => ?_) (fun h => absurd h (nI_n0 (by omega) (by omega)))
        refine ew_iinc (M := mX10_ofGreys) dX10_ofGreys_93 rfl (ex_inc i) (by decide) rfl ?_
        refine ew_goto (M := mX10_ofGreys) (tgt := 24) dX10_ofGreys_96 rfl ?_
        refine ew_ls _ ?_ ki
        exact ⟨rfl, rfl, rfl, rfl, rfl, rfl, rfl, trivial⟩
    · refine ew_iload (M := mX10_ofGreys) dX10_ofGreys_24 rfl ?_
      refine ew_aload_n (M := mX10_ofGreys) dX10_ofGreys_26 rfl (Or.inr (Or.inl ⟨_, rfl⟩)) ?_
      refine ew_get (M := mX10_ofGreys) dX10_ofGreys_27 fX10_7 (by repeat (first | with_reducible assumption | refine ex_eq ?_ | refine ex_ne ?_ (by omega) | exact ex_lt (by with_reducible assumption) | rw [List.length_set] | assumption)) (by rfl) ?_
      refine ew_iconst (M := mX10_ofGreys) dX10_ofGreys_30 (v := nI 0) (by decide) ?_
      refine ew_iald (M := mX10_ofGreys) 0 dX10_ofGreys_31 (by repeat (first | with_reducible assumption | refine ex_eq ?_ | refine ex_ne ?_ (by omega) | exact ex_lt (by with_reducible assumption) | rw [List.length_set] | assumption)) ⟨rfl, by decide, by decide⟩ ?_
      rw [hW0]
      refine ew_icmp_ge (M := mX10_ofGreys) (tgt := 99) dX10_ofGreys_32 rfl (fun _ => ?_) (fun h => absurd (nI_le (Nat.le_refl _) (by omega)) h)
      refine ew_iinc (M := mX10_ofGreys) dX10_ofGreys_99 rfl (ex_inc j) (by decide) rfl ?_
      refine ew_goto (M := mX10_ofGreys) (tgt := 10) dX10_ofGreys_102 rfl ?_
      refine ew_ls _ ?_ ko
      exact ⟨rfl, rfl, rfl, rfl, rfl, rfl, trivial⟩
  · rw [e]
    unfold ogV
    refine ew_iload (M := mX10_ofGreys) dX10_ofGreys_10 rfl ?_
    refine ew_aload_n (M := mX10_ofGreys) dX10_ofGreys_12 rfl (Or.inr (Or.inl ⟨_, rfl⟩)) ?_
    refine ew_get (M := mX10_ofGreys) dX10_ofGreys_13 fX10_7 (by repeat (first | with_reducible assumption | refine ex_eq ?_ | refine ex_ne ?_ (by omega) | exact ex_lt (by with_reducible assumption) | rw [List.length_set] | assumption)) (by rfl) ?_
    refine ew_iconst (M := mX10_ofGreys) dX10_ofGreys_16 (v := nI 1) (by decide) ?_
    refine ew_iald (M := mX10_ofGreys) 1 dX10_ofGreys_17 (by repeat (first | with_reducible assumption | refine ex_eq ?_ | refine ex_ne ?_ (by omega) | exact ex_lt (by with_reducible assumption) | rw [List.length_set] | assumption)) ⟨rfl, by decide, by decide⟩ ?_
    rw [hW1]
    refine ew_icmp_ge (M := mX10_ofGreys) (tgt := 105) dX10_ofGreys_18 rfl (fun _ => ?_) (fun h => absurd (nI_le (Nat.le_refl _) (by omega)) h)
    refine ew_iload_n (M := mX10_ofGreys) dX10_ofGreys_105 rfl ?_
    refine ew_iconst (M := mX10_ofGreys) dX10_ofGreys_106 (v := nI 3) (by decide) ?_
    refine ew_icmp_ne (M := mX10_ofGreys) (tgt := 114) dX10_ofGreys_107 rfl (fun c107 => ?_) (fun c107 => ?_)
    · rw [if_neg c107]
      refine ew_iload_n (M := mX10_ofGreys) dX10_ofGreys_114 rfl ?_
      refine ew_iconst (M := mX10_ofGreys) dX10_ofGreys_115 (v := nI 4) (by decide) ?_
      refine ew_icmp_ne (M := mX10_ofGreys) (tgt := 123) dX10_ofGreys_116 rfl (fun c116 => ?_) (fun c116 => ?_)
      · rw [if_neg c116]
        refine ew_iload (M := mX10_ofGreys) dX10_ofGreys_123 rfl ?_
        refine ew_iret (M := mX10_ofGreys) dX10_ofGreys_125 rfl (by first | rfl | decide) (Nat.le_refl _) (Nat.le_refl _) ?_
        exact ⟨rfl, rfl⟩
      · rw [if_pos c116]
        refine ew_iload_n (M := mX10_ofGreys) dX10_ofGreys_119 rfl ?_
        refine ew_goto (M := mX10_ofGreys) (tgt := 125) dX10_ofGreys_120 rfl ?_
        refine ew_iret (M := mX10_ofGreys) dX10_ofGreys_125 rfl (by first | rfl | decide) (Nat.le_refl _) (Nat.le_refl _) ?_
        exact ⟨rfl, rfl⟩
    · rw [if_pos c107]
      refine ew_iload_n (M := mX10_ofGreys) dX10_ofGreys_110 rfl ?_
      refine ew_goto (M := mX10_ofGreys) (tgt := 125) dX10_ofGreys_111 rfl ?_
      refine ew_iret (M := mX10_ofGreys) dX10_ofGreys_125 rfl (by first | rfl | decide) (Nat.le_refl _) (Nat.le_refl _) ?_
      exact ⟨rfl, rfl⟩
theorem ms_wrong {d : Nat} {H : ex_H} {S : SS} {R : Int32 × Int32 × Int32 × Int32} {mn : Int32} {C N : Nat → Int32} (hS : mo_at H S R mn C N) : ex_Met mX10_wrong (d + 2) 0 0 H [.ref 86] (ex_r H (.int (ffw (fun k => bwr S.2.2.1.1 (S.2.2.2.2.2.2.2 k)) S.2.2.2.2.2.2.1 0))) := by
  obtain ⟨a1, ⟨hfi, hsd, hkp⟩, ⟨W, a2, hw0, ⟨hcn, hwh⟩, hwi⟩, ⟨T, a3, htn, htx⟩, ⟨F, a4, hfl⟩, ⟨IF, IL, IS, a5, a6, a7, him⟩, ⟨BX, BY, BG, a8, a9, a10, hbn, hbk⟩, a11, a12⟩ := id hS
  obtain ⟨⟨⟨hz1, hz2, hz3, hz4⟩, hgm⟩, hW0, hW1, hWd⟩ := id hw0
  refine ex_meth [(0, .ref 86)] rfl rfl rfl (fun b => Nat.le_of_ble_eq_true rfl) ?_
  refine ew_iconst (M := mX10_wrong) dX10_wrong_0 (v := nI 0) (by decide) ?_
  refine ew_istore_n (M := mX10_wrong) dX10_wrong_1 (by decide) rfl ?_
  have key : ∀ k i, i + k = S.2.2.2.2.2.2.1 → ffw (fun k => bwr S.2.2.1.1 (S.2.2.2.2.2.2.2 k)) S.2.2.2.2.2.2.1 0 = ffw (fun k => bwr S.2.2.1.1 (S.2.2.2.2.2.2.2 k)) k i → ex_W mX10_wrong (d + 2) 0 0 (ex_r H (.int (ffw (fun k => bwr S.2.2.1.1 (S.2.2.2.2.2.2.2 k)) S.2.2.2.2.2.2.1 0))) H 2 [(0, .ref 86), (1, .int (nI i))] [] 0 0 := by
    intro k
    induction k with
    | zero =>
      intro i hi e0
      rw [e0]
      refine ew_iload_n (M := mX10_wrong) dX10_wrong_2 rfl ?_
      refine ew_aload_n (M := mX10_wrong) dX10_wrong_3 rfl (Or.inr (Or.inl ⟨_, rfl⟩)) ?_
      refine ew_get (M := mX10_wrong) dX10_wrong_4 fX10_163 (by repeat (first | with_reducible assumption | refine ex_eq ?_ | refine ex_ne ?_ (by omega) | exact ex_lt (by with_reducible assumption) | rw [List.length_set] | assumption)) (by rfl) ?_
      refine ew_icmp_ge (M := mX10_wrong) (tgt := 62) dX10_wrong_7 rfl (fun _ => ?_) (fun h => absurd (nI_le (by omega) (by omega)) h)
      refine ew_iconst (M := mX10_wrong) dX10_wrong_62 (v := (-1)) (by decide) ?_
      refine ew_iret (M := mX10_wrong) dX10_wrong_63 rfl (by first | rfl | decide) (Nat.le_refl _) (Nat.le_refl _) ?_
      exact ⟨rfl, rfl⟩
    | succ k ih =>
      intro i hi e0
      obtain ⟨g1, g2, g3, b1, b2⟩ := hbk i (by omega)
      by_cases hin : (S.2.2.2.2.2.2.2 i).1 < S.2.2.1.1.1 ∧ (S.2.2.2.2.2.2.2 i).2.1 < S.2.2.1.1.2.1
      · have hgg := (hgm _ (pi_lt hin.1 hin.2)).1
        refine ew_iload_n (M := mX10_wrong) dX10_wrong_2 rfl ?_
        refine ew_aload_n (M := mX10_wrong) dX10_wrong_3 rfl (Or.inr (Or.inl ⟨_, rfl⟩)) ?_
        refine ew_get (M := mX10_wrong) dX10_wrong_4 fX10_163 (by repeat (first | with_reducible assumption | refine ex_eq ?_ | refine ex_ne ?_ (by omega) | exact ex_lt (by with_reducible assumption) | rw [List.length_set] | assumption)) (by rfl) ?_
        refine ew_icmp_ge (M := mX10_wrong) (tgt := 62) dX10_wrong_7 rfl (fun h => absurd h (nI_ge (by omega) (by omega))) (fun _ => ?_)
        refine ew_aload_n (M := mX10_wrong) dX10_wrong_10 rfl (Or.inr (Or.inl ⟨_, rfl⟩)) ?_
        refine ew_aload_n (M := mX10_wrong) dX10_wrong_11 rfl (Or.inr (Or.inl ⟨_, rfl⟩)) ?_
        refine ew_get (M := mX10_wrong) dX10_wrong_12 fX10_32 (by repeat (first | with_reducible assumption | refine ex_eq ?_ | refine ex_ne ?_ (by omega) | exact ex_lt (by with_reducible assumption) | rw [List.length_set] | assumption)) (by rfl) ?_
        refine ew_iload_n (M := mX10_wrong) dX10_wrong_15 rfl ?_
        refine ew_iald (M := mX10_wrong) i dX10_wrong_16 (by repeat (first | with_reducible assumption | refine ex_eq ?_ | refine ex_ne ?_ (by omega) | exact ex_lt (by with_reducible assumption) | rw [List.length_set] | assumption)) ⟨rfl, by omega, by decide⟩ ?_
        rw [g1]
        refine ew_aload_n (M := mX10_wrong) dX10_wrong_17 rfl (Or.inr (Or.inl ⟨_, rfl⟩)) ?_
        refine ew_get (M := mX10_wrong) dX10_wrong_18 fX10_35 (by repeat (first | with_reducible assumption | refine ex_eq ?_ | refine ex_ne ?_ (by omega) | exact ex_lt (by with_reducible assumption) | rw [List.length_set] | assumption)) (by rfl) ?_
        refine ew_iload_n (M := mX10_wrong) dX10_wrong_21 rfl ?_
        refine ew_iald (M := mX10_wrong) i dX10_wrong_22 (by repeat (first | with_reducible assumption | refine ex_eq ?_ | refine ex_ne ?_ (by omega) | exact ex_lt (by with_reducible assumption) | rw [List.length_set] | assumption)) ⟨rfl, by omega, by decide⟩ ?_
        rw [g2]
        refine ew_callV (M := mX10_wrong) dX10_wrong_23 vX10_140 (by repeat (first | with_reducible assumption | refine ex_eq ?_ | refine ex_ne ?_ (by omega) | exact ex_lt (by with_reducible assumption) | rw [List.length_set] | assumption)) rfl (ms_isDot_y hS hin.1 hin.2) rfl (Nat.le_of_ble_eq_true rfl) ⟨Nat.le_refl _, Nat.le_refl _⟩ rfl (fun H23 r23 q23 => ?_)
        obtain ⟨rfl, rfl⟩ := q23
        refine ew_if_eq (M := mX10_wrong) (tgt := 54) dX10_wrong_26 rfl (fun h => absurd h (by decide)) (fun _ => ?_)
        refine ew_aload_n (M := mX10_wrong) dX10_wrong_29 rfl (Or.inr (Or.inl ⟨_, rfl⟩)) ?_
        refine ew_aload_n (M := mX10_wrong) dX10_wrong_30 rfl (Or.inr (Or.inl ⟨_, rfl⟩)) ?_
        refine ew_get (M := mX10_wrong) dX10_wrong_31 fX10_32 (by repeat (first | with_reducible assumption | refine ex_eq ?_ | refine ex_ne ?_ (by omega) | exact ex_lt (by with_reducible assumption) | rw [List.length_set] | assumption)) (by rfl) ?_
        refine ew_iload_n (M := mX10_wrong) dX10_wrong_34 rfl ?_
        refine ew_iald (M := mX10_wrong) i dX10_wrong_35 (by repeat (first | with_reducible assumption | refine ex_eq ?_ | refine ex_ne ?_ (by omega) | exact ex_lt (by with_reducible assumption) | rw [List.length_set] | assumption)) ⟨rfl, by omega, by decide⟩ ?_
        rw [g1]
        refine ew_aload_n (M := mX10_wrong) dX10_wrong_36 rfl (Or.inr (Or.inl ⟨_, rfl⟩)) ?_
        refine ew_get (M := mX10_wrong) dX10_wrong_37 fX10_35 (by repeat (first | with_reducible assumption | refine ex_eq ?_ | refine ex_ne ?_ (by omega) | exact ex_lt (by with_reducible assumption) | rw [List.length_set] | assumption)) (by rfl) ?_
        refine ew_iload_n (M := mX10_wrong) dX10_wrong_40 rfl ?_
        refine ew_iald (M := mX10_wrong) i dX10_wrong_41 (by repeat (first | with_reducible assumption | refine ex_eq ?_ | refine ex_ne ?_ (by omega) | exact ex_lt (by with_reducible assumption) | rw [List.length_set] | assumption)) ⟨rfl, by omega, by decide⟩ ?_
        rw [g2]
        refine ew_callV (M := mX10_wrong) dX10_wrong_42 vX10_137 (by repeat (first | with_reducible assumption | refine ex_eq ?_ | refine ex_ne ?_ (by omega) | exact ex_lt (by with_reducible assumption) | rw [List.length_set] | assumption)) rfl (ms_grey hS hin.1 hin.2) rfl (Nat.le_of_ble_eq_true rfl) ⟨Nat.le_refl _, Nat.le_refl _⟩ rfl (fun H42 r42 q42 => ?_)
        obtain ⟨rfl, rfl⟩ := q42
        refine ew_aload_n (M := mX10_wrong) dX10_wrong_45 rfl (Or.inr (Or.inl ⟨_, rfl⟩)) ?_
        refine ew_get (M := mX10_wrong) dX10_wrong_46 fX10_38 (by repeat (first | with_reducible assumption | refine ex_eq ?_ | refine ex_ne ?_ (by omega) | exact ex_lt (by with_reducible assumption) | rw [List.length_set] | assumption)) (by rfl) ?_
        refine ew_iload_n (M := mX10_wrong) dX10_wrong_49 rfl ?_
        refine ew_iald (M := mX10_wrong) i dX10_wrong_50 (by repeat (first | with_reducible assumption | refine ex_eq ?_ | refine ex_ne ?_ (by omega) | exact ex_lt (by with_reducible assumption) | rw [List.length_set] | assumption)) ⟨rfl, by omega, by decide⟩ ?_
        rw [g3]
        refine ew_icmp_eq (M := mX10_wrong) (tgt := 56) dX10_wrong_51 rfl (fun c51 => ?_) (fun c51 => ?_)
        · rw [ffw_n (W := (fun k => bwr S.2.2.1.1 (S.2.2.2.2.2.2.2 k))) (i := i) (fun q => q.elim (fun q => q hin) (fun q => q c51))] at e0
          refine ew_iinc (M := mX10_wrong) dX10_wrong_56 rfl (ex_inc i) (by decide) rfl ?_
          refine ew_goto (M := mX10_wrong) (tgt := 2) dX10_wrong_59 rfl ?_
          refine ew_ls _ ?_ (ih (i + 1) (by omega) e0)
          exact ⟨rfl, rfl, trivial⟩
        · rw [ffw_y (W := (fun k => bwr S.2.2.1.1 (S.2.2.2.2.2.2.2 k))) (i := i) (Or.inr c51)] at e0
          refine ew_iload_n (M := mX10_wrong) dX10_wrong_54 rfl ?_
          refine ew_iret (M := mX10_wrong) dX10_wrong_55 rfl (by first | rfl | decide) (Nat.le_refl _) (Nat.le_refl _) ?_
          exact ⟨rfl, by rw [e0]⟩
      · rw [ffw_y (W := (fun k => bwr S.2.2.1.1 (S.2.2.2.2.2.2.2 k))) (i := i) (Or.inl hin)] at e0
        refine ew_iload_n (M := mX10_wrong) dX10_wrong_2 rfl ?_
        refine ew_aload_n (M := mX10_wrong) dX10_wrong_3 rfl (Or.inr (Or.inl ⟨_, rfl⟩)) ?_
        refine ew_get (M := mX10_wrong) dX10_wrong_4 fX10_163 (by repeat (first | with_reducible assumption | refine ex_eq ?_ | refine ex_ne ?_ (by omega) | exact ex_lt (by with_reducible assumption) | rw [List.length_set] | assumption)) (by rfl) ?_
        refine ew_icmp_ge (M := mX10_wrong) (tgt := 62) dX10_wrong_7 rfl (fun h => absurd h (nI_ge (by omega) (by omega))) (fun _ => ?_)
        refine ew_aload_n (M := mX10_wrong) dX10_wrong_10 rfl (Or.inr (Or.inl ⟨_, rfl⟩)) ?_
        refine ew_aload_n (M := mX10_wrong) dX10_wrong_11 rfl (Or.inr (Or.inl ⟨_, rfl⟩)) ?_
        refine ew_get (M := mX10_wrong) dX10_wrong_12 fX10_32 (by repeat (first | with_reducible assumption | refine ex_eq ?_ | refine ex_ne ?_ (by omega) | exact ex_lt (by with_reducible assumption) | rw [List.length_set] | assumption)) (by rfl) ?_
        refine ew_iload_n (M := mX10_wrong) dX10_wrong_15 rfl ?_
        refine ew_iald (M := mX10_wrong) i dX10_wrong_16 (by repeat (first | with_reducible assumption | refine ex_eq ?_ | refine ex_ne ?_ (by omega) | exact ex_lt (by with_reducible assumption) | rw [List.length_set] | assumption)) ⟨rfl, by omega, by decide⟩ ?_
        rw [g1]
        refine ew_aload_n (M := mX10_wrong) dX10_wrong_17 rfl (Or.inr (Or.inl ⟨_, rfl⟩)) ?_
        refine ew_get (M := mX10_wrong) dX10_wrong_18 fX10_35 (by repeat (first | with_reducible assumption | refine ex_eq ?_ | refine ex_ne ?_ (by omega) | exact ex_lt (by with_reducible assumption) | rw [List.length_set] | assumption)) (by rfl) ?_
        refine ew_iload_n (M := mX10_wrong) dX10_wrong_21 rfl ?_
        refine ew_iald (M := mX10_wrong) i dX10_wrong_22 (by repeat (first | with_reducible assumption | refine ex_eq ?_ | refine ex_ne ?_ (by omega) | exact ex_lt (by with_reducible assumption) | rw [List.length_set] | assumption)) ⟨rfl, by omega, by decide⟩ ?_
        rw [g2]
        refine ew_callV (M := mX10_wrong) dX10_wrong_23 vX10_140 (by repeat (first | with_reducible assumption | refine ex_eq ?_ | refine ex_ne ?_ (by omega) | exact ex_lt (by with_reducible assumption) | rw [List.length_set] | assumption)) rfl (ms_isDot_n hS (fun q => hin ((pi_in_nI (by omega) (by omega) (by omega) (by omega)).mp q))) rfl (Nat.le_of_ble_eq_true rfl) ⟨Nat.le_refl _, Nat.le_refl _⟩ rfl (fun H23 r23 q23 => ?_)
        obtain ⟨rfl, rfl⟩ := q23
        refine ew_if_eq (M := mX10_wrong) (tgt := 54) dX10_wrong_26 rfl (fun _ => ?_) (fun h => absurd rfl h)
        refine ew_iload_n (M := mX10_wrong) dX10_wrong_54 rfl ?_
        refine ew_iret (M := mX10_wrong) dX10_wrong_55 rfl (by first | rfl | decide) (Nat.le_refl _) (Nat.le_refl _) ?_
        exact ⟨rfl, by rw [e0]⟩
  refine ew_ls _ ?_ (key S.2.2.2.2.2.2.1 0 (by omega) rfl)
  exact ⟨rfl, rfl, trivial⟩
theorem ms_told {d : Nat} {H : ex_H} {S : SS} (hS : mo_is H S) (x : Int32) : ex_Met mX10_told (d + 3) 0 0 H [.ref 86, .int x] (fun H' r => r = some (.int (f_told S x).1) ∧ ex_ch H H' mL ∧ mo_is H' (f_told S x).2) := by
  obtain ⟨R, mn, C, N, hS⟩ := hS
  obtain ⟨a1, ⟨hfi, hsd, hkp⟩, ⟨W, a2, hw0, ⟨hcn, hwh⟩, hwi⟩, ⟨T, a3, htn, htx⟩, ⟨F, a4, hfl⟩, ⟨IF, IL, IS, a5, a6, a7, him⟩, ⟨BX, BY, BG, a8, a9, a10, hbn, hbk⟩, a11, a12⟩ := id hS
  obtain ⟨⟨⟨hz1, hz2, hz3, hz4⟩, hgm⟩, hW0, hW1, hWd⟩ := id hw0
  have hW1 : W 1 = nI S.2.2.1.1.2.1 := hW1
  have hF0 : F 0 = nI S.2.2.1.2.1.1 := hfl.2.1
  refine ex_meth [(0, .ref 86), (1, .int x)] rfl rfl rfl (fun b => Nat.le_of_ble_eq_true rfl) ?_
  unfold f_told
  by_cases q0 : x = nI 0
  · rw [cif_y q0]
    subst q0
    refine ew_iload_n (M := mX10_told) dX10_told_0 rfl ?_
    refine ew_tableIn (M := mX10_told) (tgt := 64) (off := 63) dX10_told_1 (by decide) (by decide) (by decide) rfl ?_
    refine ew_aload_n (M := mX10_told) dX10_told_64 rfl (Or.inr (Or.inl ⟨_, rfl⟩)) ?_
    refine ew_get (M := mX10_told) dX10_told_65 fX10_7 (by repeat (first | with_reducible assumption | refine ex_eq ?_ | refine ex_ne ?_ (by omega) | exact ex_lt (by with_reducible assumption) | rw [List.length_set] | assumption)) (by rfl) ?_
    refine ew_iconst (M := mX10_told) dX10_told_68 (v := nI 0) (by decide) ?_
    refine ew_iald (M := mX10_told) 0 dX10_told_69 (by repeat (first | with_reducible assumption | refine ex_eq ?_ | refine ex_ne ?_ (by omega) | exact ex_lt (by with_reducible assumption) | rw [List.length_set] | assumption)) ⟨rfl, by decide, by decide⟩ ?_
    rw [hW0]
    refine ew_iret (M := mX10_told) dX10_told_70 rfl (by first | rfl | decide) (Nat.le_refl _) (Nat.le_refl _) ?_
    exact ⟨rfl, ex_ch.rf, _, _, _, _, hS⟩
  · skip
    by_cases q1 : x = nI 1
    · rw [cif_n q0, cif_y q1]
      subst q1
      refine ew_iload_n (M := mX10_told) dX10_told_0 rfl ?_
      refine ew_tableIn (M := mX10_told) (tgt := 71) (off := 70) dX10_told_1 (by decide) (by decide) (by decide) rfl ?_
      refine ew_aload_n (M := mX10_told) dX10_told_71 rfl (Or.inr (Or.inl ⟨_, rfl⟩)) ?_
      refine ew_get (M := mX10_told) dX10_told_72 fX10_7 (by repeat (first | with_reducible assumption | refine ex_eq ?_ | refine ex_ne ?_ (by omega) | exact ex_lt (by with_reducible assumption) | rw [List.length_set] | assumption)) (by rfl) ?_
      refine ew_iconst (M := mX10_told) dX10_told_75 (v := nI 1) (by decide) ?_
      refine ew_iald (M := mX10_told) 1 dX10_told_76 (by repeat (first | with_reducible assumption | refine ex_eq ?_ | refine ex_ne ?_ (by omega) | exact ex_lt (by with_reducible assumption) | rw [List.length_set] | assumption)) ⟨rfl, by decide, by decide⟩ ?_
      rw [hW1]
      refine ew_iret (M := mX10_told) dX10_told_77 rfl (by first | rfl | decide) (Nat.le_refl _) (Nat.le_refl _) ?_
      exact ⟨rfl, ex_ch.rf, _, _, _, _, hS⟩
    · skip
      by_cases q2 : x = nI 2
      · rw [cif_n q0, cif_n q1, cif_y q2]
        subst q2
        refine ew_iload_n (M := mX10_told) dX10_told_0 rfl ?_
        refine ew_tableIn (M := mX10_told) (tgt := 78) (off := 77) dX10_told_1 (by decide) (by decide) (by decide) rfl ?_
        refine ew_aload_n (M := mX10_told) dX10_told_78 rfl (Or.inr (Or.inl ⟨_, rfl⟩)) ?_
        refine ew_callV (M := mX10_told) dX10_told_79 vX10_166 (by repeat (first | with_reducible assumption | refine ex_eq ?_ | refine ex_ne ?_ (by omega) | exact ex_lt (by with_reducible assumption) | rw [List.length_set] | assumption)) rfl (ms_masked hS) rfl (Nat.le_of_ble_eq_true rfl) ⟨Nat.le_refl _, Nat.le_refl _⟩ rfl (fun H79 r79 q79 => ?_)
        obtain ⟨rfl, rfl⟩ := q79
        refine ew_iret (M := mX10_told) dX10_told_82 rfl (by first | rfl | decide) (Nat.le_refl _) (Nat.le_refl _) ?_
        exact ⟨rfl, ex_ch.rf, _, _, _, _, hS⟩
      · skip
        by_cases q3 : x = nI 3
        · rw [cif_n q0, cif_n q1, cif_n q2, cif_y q3]
          subst q3
          refine ew_iload_n (M := mX10_told) dX10_told_0 rfl ?_
          refine ew_tableIn (M := mX10_told) (tgt := 83) (off := 82) dX10_told_1 (by decide) (by decide) (by decide) rfl ?_
          refine ew_aload_n (M := mX10_told) dX10_told_83 rfl (Or.inr (Or.inl ⟨_, rfl⟩)) ?_
          refine ew_iload_n (M := mX10_told) dX10_told_84 rfl ?_
          refine ew_callV (M := mX10_told) dX10_told_85 vX10_169 (by repeat (first | with_reducible assumption | refine ex_eq ?_ | refine ex_ne ?_ (by omega) | exact ex_lt (by with_reducible assumption) | rw [List.length_set] | assumption)) rfl (ms_ofGreys hS) rfl (Nat.le_of_ble_eq_true rfl) ⟨Nat.le_refl _, Nat.le_refl _⟩ rfl (fun H85 r85 q85 => ?_)
          obtain ⟨rfl, rfl⟩ := q85
          refine ew_iret (M := mX10_told) dX10_told_88 rfl (by first | rfl | decide) (Nat.le_refl _) (Nat.le_refl _) ?_
          exact ⟨rfl, ex_ch.rf, _, _, _, _, hS⟩
        · skip
          by_cases q4 : x = nI 4
          · rw [cif_n q0, cif_n q1, cif_n q2, cif_n q3, cif_y q4]
            subst q4
            refine ew_iload_n (M := mX10_told) dX10_told_0 rfl ?_
            refine ew_tableIn (M := mX10_told) (tgt := 83) (off := 82) dX10_told_1 (by decide) (by decide) (by decide) rfl ?_
            refine ew_aload_n (M := mX10_told) dX10_told_83 rfl (Or.inr (Or.inl ⟨_, rfl⟩)) ?_
            refine ew_iload_n (M := mX10_told) dX10_told_84 rfl ?_
            refine ew_callV (M := mX10_told) dX10_told_85 vX10_169 (by repeat (first | with_reducible assumption | refine ex_eq ?_ | refine ex_ne ?_ (by omega) | exact ex_lt (by with_reducible assumption) | rw [List.length_set] | assumption)) rfl (ms_ofGreys hS) rfl (Nat.le_of_ble_eq_true rfl) ⟨Nat.le_refl _, Nat.le_refl _⟩ rfl (fun H85 r85 q85 => ?_)
            obtain ⟨rfl, rfl⟩ := q85
            refine ew_iret (M := mX10_told) dX10_told_88 rfl (by first | rfl | decide) (Nat.le_refl _) (Nat.le_refl _) ?_
            exact ⟨rfl, ex_ch.rf, _, _, _, _, hS⟩
          · skip
            by_cases q5 : x = nI 5
            · rw [cif_n q0, cif_n q1, cif_n q2, cif_n q3, cif_n q4, cif_y q5]
              subst q5
              refine ew_iload_n (M := mX10_told) dX10_told_0 rfl ?_
              refine ew_tableIn (M := mX10_told) (tgt := 83) (off := 82) dX10_told_1 (by decide) (by decide) (by decide) rfl ?_
              refine ew_aload_n (M := mX10_told) dX10_told_83 rfl (Or.inr (Or.inl ⟨_, rfl⟩)) ?_
              refine ew_iload_n (M := mX10_told) dX10_told_84 rfl ?_
              refine ew_callV (M := mX10_told) dX10_told_85 vX10_169 (by repeat (first | with_reducible assumption | refine ex_eq ?_ | refine ex_ne ?_ (by omega) | exact ex_lt (by with_reducible assumption) | rw [List.length_set] | assumption)) rfl (ms_ofGreys hS) rfl (Nat.le_of_ble_eq_true rfl) ⟨Nat.le_refl _, Nat.le_refl _⟩ rfl (fun H85 r85 q85 => ?_)
              obtain ⟨rfl, rfl⟩ := q85
              refine ew_iret (M := mX10_told) dX10_told_88 rfl (by first | rfl | decide) (Nat.le_refl _) (Nat.le_refl _) ?_
              exact ⟨rfl, ex_ch.rf, _, _, _, _, hS⟩
            · skip
              by_cases q6 : x = nI 6
              · rw [cif_n q0, cif_n q1, cif_n q2, cif_n q3, cif_n q4, cif_n q5, cif_y q6]
                subst q6
                refine ew_iload_n (M := mX10_told) dX10_told_0 rfl ?_
                refine ew_tableIn (M := mX10_told) (tgt := 89) (off := 88) dX10_told_1 (by decide) (by decide) (by decide) rfl ?_
                refine ew_aload_n (M := mX10_told) dX10_told_89 rfl (Or.inr (Or.inl ⟨_, rfl⟩)) ?_
                refine ew_get (M := mX10_told) dX10_told_90 fX10_98 (by repeat (first | with_reducible assumption | refine ex_eq ?_ | refine ex_ne ?_ (by omega) | exact ex_lt (by with_reducible assumption) | rw [List.length_set] | assumption)) (by rfl) ?_
                refine ew_iret (M := mX10_told) dX10_told_93 rfl (by first | rfl | decide) (Nat.le_refl _) (Nat.le_refl _) ?_
                exact ⟨rfl, ex_ch.rf, _, _, _, _, hS⟩
              · skip
                by_cases q7 : x = nI 7
                · rw [cif_n q0, cif_n q1, cif_n q2, cif_n q3, cif_n q4, cif_n q5, cif_n q6, cif_y q7]
                  subst q7
                  refine ew_iload_n (M := mX10_told) dX10_told_0 rfl ?_
                  refine ew_tableIn (M := mX10_told) (tgt := 94) (off := 93) dX10_told_1 (by decide) (by decide) (by decide) rfl ?_
                  refine ew_aload_n (M := mX10_told) dX10_told_94 rfl (Or.inr (Or.inl ⟨_, rfl⟩)) ?_
                  refine ew_get (M := mX10_told) dX10_told_95 fX10_20 (by repeat (first | with_reducible assumption | refine ex_eq ?_ | refine ex_ne ?_ (by omega) | exact ex_lt (by with_reducible assumption) | rw [List.length_set] | assumption)) (by rfl) ?_
                  refine ew_iconst (M := mX10_told) dX10_told_98 (v := nI 0) (by decide) ?_
                  refine ew_iald (M := mX10_told) 0 dX10_told_99 (by repeat (first | with_reducible assumption | refine ex_eq ?_ | refine ex_ne ?_ (by omega) | exact ex_lt (by with_reducible assumption) | rw [List.length_set] | assumption)) ⟨rfl, by decide, by decide⟩ ?_
                  rw [hF0]
                  refine ew_iret (M := mX10_told) dX10_told_100 rfl (by first | rfl | decide) (Nat.le_refl _) (Nat.le_refl _) ?_
                  exact ⟨rfl, ex_ch.rf, _, _, _, _, hS⟩
                · skip
                  by_cases q8 : x = nI 8
                  · rw [cif_n q0, cif_n q1, cif_n q2, cif_n q3, cif_n q4, cif_n q5, cif_n q6, cif_n q7, cif_y q8]
                    subst q8
                    refine ew_iload_n (M := mX10_told) dX10_told_0 rfl ?_
                    refine ew_tableIn (M := mX10_told) (tgt := 101) (off := 100) dX10_told_1 (by decide) (by decide) (by decide) rfl ?_
                    refine ew_aload_n (M := mX10_told) dX10_told_101 rfl (Or.inr (Or.inl ⟨_, rfl⟩)) ?_
                    refine ew_get (M := mX10_told) dX10_told_102 fX10_127 (by repeat (first | with_reducible assumption | refine ex_eq ?_ | refine ex_ne ?_ (by omega) | exact ex_lt (by with_reducible assumption) | rw [List.length_set] | assumption)) (by rfl) ?_
                    refine ew_iret (M := mX10_told) dX10_told_105 rfl (by first | rfl | decide) (Nat.le_refl _) (Nat.le_refl _) ?_
                    exact ⟨rfl, ex_ch.rf, _, _, _, _, hS⟩
                  · skip
                    by_cases q9 : x = nI 9
                    · rw [cif_n q0, cif_n q1, cif_n q2, cif_n q3, cif_n q4, cif_n q5, cif_n q6, cif_n q7, cif_n q8, cif_y q9]
                      subst q9
                      refine ew_iload_n (M := mX10_told) dX10_told_0 rfl ?_
                      refine ew_tableIn (M := mX10_told) (tgt := 106) (off := 105) dX10_told_1 (by decide) (by decide) (by decide) rfl ?_
                      refine ew_aload_n (M := mX10_told) dX10_told_106 rfl (Or.inr (Or.inl ⟨_, rfl⟩)) ?_
                      refine ew_get (M := mX10_told) dX10_told_107 fX10_163 (by repeat (first | with_reducible assumption | refine ex_eq ?_ | refine ex_ne ?_ (by omega) | exact ex_lt (by with_reducible assumption) | rw [List.length_set] | assumption)) (by rfl) ?_
                      refine ew_iret (M := mX10_told) dX10_told_110 rfl (by first | rfl | decide) (Nat.le_refl _) (Nat.le_refl _) ?_
                      exact ⟨rfl, ex_ch.rf, _, _, _, _, hS⟩
                    · skip
                      by_cases q10 : x = nI 10
                      · rw [cif_n q0, cif_n q1, cif_n q2, cif_n q3, cif_n q4, cif_n q5, cif_n q6, cif_n q7, cif_n q8, cif_n q9, cif_y q10]
                        subst q10
                        refine ew_iload_n (M := mX10_told) dX10_told_0 rfl ?_
                        refine ew_tableIn (M := mX10_told) (tgt := 111) (off := 110) dX10_told_1 (by decide) (by decide) (by decide) rfl ?_
                        refine ew_aload_n (M := mX10_told) dX10_told_111 rfl (Or.inr (Or.inl ⟨_, rfl⟩)) ?_
                        refine ew_callV (M := mX10_told) dX10_told_112 vX10_172 (by repeat (first | with_reducible assumption | refine ex_eq ?_ | refine ex_ne ?_ (by omega) | exact ex_lt (by with_reducible assumption) | rw [List.length_set] | assumption)) rfl (ms_wrong hS) rfl (Nat.le_of_ble_eq_true rfl) ⟨Nat.le_refl _, Nat.le_refl _⟩ rfl (fun H112 r112 q112 => ?_)
                        obtain ⟨rfl, rfl⟩ := q112
                        refine ew_iret (M := mX10_told) dX10_told_115 rfl (by first | rfl | decide) (Nat.le_refl _) (Nat.le_refl _) ?_
                        exact ⟨rfl, ex_ch.rf, _, _, _, _, hS⟩
                      · skip
                        by_cases q11 : x = nI 11
                        · rw [cif_n q0, cif_n q1, cif_n q2, cif_n q3, cif_n q4, cif_n q5, cif_n q6, cif_n q7, cif_n q8, cif_n q9, cif_n q10, cif_y q11]
                          subst q11
                          refine ew_iload_n (M := mX10_told) dX10_told_0 rfl ?_
                          refine ew_tableIn (M := mX10_told) (tgt := 116) (off := 115) dX10_told_1 (by decide) (by decide) (by decide) rfl ?_
                          refine ew_aload_n (M := mX10_told) dX10_told_116 rfl (Or.inr (Or.inl ⟨_, rfl⟩)) ?_
                          refine ew_get (M := mX10_told) dX10_told_117 fX10_51 (by repeat (first | with_reducible assumption | refine ex_eq ?_ | refine ex_ne ?_ (by omega) | exact ex_lt (by with_reducible assumption) | rw [List.length_set] | assumption)) (by rfl) ?_
                          refine ew_iret (M := mX10_told) dX10_told_120 rfl (by first | rfl | decide) (Nat.le_refl _) (Nat.le_refl _) ?_
                          exact ⟨rfl, ex_ch.rf, _, _, _, _, hS⟩
                        · rw [cif_n q0, cif_n q1, cif_n q2, cif_n q3, cif_n q4, cif_n q5, cif_n q6, cif_n q7, cif_n q8, cif_n q9, cif_n q10, cif_n q11]
                          have hout : x.toInt < 0 ∨ 11 < x.toInt := told_out (fun k hk e => by
                            rcases (show k = 0 ∨ k = 1 ∨ k = 2 ∨ k = 3 ∨ k = 4 ∨ k = 5 ∨ k = 6 ∨ k = 7 ∨ k = 8 ∨ k = 9 ∨ k = 10 ∨ k = 11 by omega) with rfl | rfl | rfl | rfl | rfl | rfl | rfl | rfl | rfl | rfl | rfl | rfl <;> contradiction)
                          refine ew_iload_n (M := mX10_told) dX10_told_0 rfl ?_
                          refine ew_tableOut (M := mX10_told) (tgt := 121) dX10_told_1 hout rfl ?_
                          refine ew_ldc (M := mX10_told) dX10_told_121 kX10_110 ?_
                          refine ew_iret (M := mX10_told) dX10_told_123 rfl (by first | rfl | decide) (Nat.le_refl _) (Nat.le_refl _) ?_
                          exact ⟨rfl, ex_ch.rf, _, _, _, _, hS⟩
