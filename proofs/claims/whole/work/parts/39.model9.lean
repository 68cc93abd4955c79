/-- what the model has counted when the class has counted c: the dot itself, once it is passed, as often as it weighs -/
def sx (m0 gs wt dn ac r q : Nat) (c : Nat → Nat) : Nat → Nat := if m0 = 0 ∧ (dn < r ∨ (r = dn ∧ ac < q)) then ca c gs (wt - 1) else c
theorem sx_iff {m0 gs wt dn ac r q r' q' : Nat} {c : Nat → Nat} (h : (dn < r ∨ (r = dn ∧ ac < q)) ↔ (dn < r' ∨ (r' = dn ∧ ac < q'))) : sx m0 gs wt dn ac r q c = sx m0 gs wt dn ac r' q' c := by
  unfold sx
  by_cases e : m0 = 0 ∧ (dn < r ∨ (r = dn ∧ ac < q))
  · rw [if_pos e, if_pos ⟨e.1, h.mp e.2⟩]
  · rw [if_neg e, if_neg (fun q => e ⟨q.1, h.mpr q.2⟩)]
theorem pl_ca {w : Nat} {g m c : Nat → Nat} {bo fi gs k : Nat} (ro co : Option Nat) : pl w g m bo fi (ca c gs k) ro co = ca (pl w g m bo fi c ro co) gs k := by
  cases ro with
  | none => exact ca_cm c gs fi k _
  | some j =>
    cases co with
    | none => exact ca_cm c gs fi k _
    | some i =>
      show (if m (j * w + i) = 0 then ca (ca c gs k) (g (j * w + i)) 1 else ca c gs k) = ca (if m (j * w + i) = 0 then ca c (g (j * w + i)) 1 else c) gs k
      by_cases h : m (j * w + i) = 0
      · rw [if_pos h, if_pos h]; exact ca_cm _ _ _ _ _
      · rw [if_neg h, if_neg h]
theorem pl_sx {w : Nat} {g m c : Nat → Nat} {bo fi m0 gs wt dn ac r q : Nat} (ro co : Option Nat) (h : ¬ (r = dn ∧ q = ac)) : pl w g m bo fi (sx m0 gs wt dn ac r q c) ro co = sx m0 gs wt dn ac r (q + 1) (pl w g m bo fi c ro co) := by
  rw [sx_iff (r' := r) (q' := q) (q := q + 1) (by omega)]
  unfold sx
  by_cases e : m0 = 0 ∧ (dn < r ∨ (r = dn ∧ ac < q))
  · rw [if_pos e, if_pos e, pl_ca]
  · rw [if_neg e, if_neg e]
theorem nI_xq (x q ac : Nat) : nI x + (nI q - nI ac) = nI (x + q) - nI ac := by
  rw [← nI_add, Int32.sub_eq_add_neg, Int32.sub_eq_add_neg, Int32.add_assoc]
theorem nI_ng (ac : Nat) : -nI ac = nI 0 - nI ac := by
  rw [nI_0, Int32.zero_sub]
set_option maxRecDepth 100000 in
theorem lw_gt : ∀ ac < 5, ∀ q < 10, (nI ac < nI q - nI ac) ↔ 2 * ac < q := by decide +kernel
set_option maxRecDepth 100000 in
theorem lw_z : ∀ ac < 5, ∀ q < 10, (nI q - nI ac = 0) ↔ q = ac := by decide +kernel
theorem ms_layWindow {d : Nat} {H : ex_H} {S : SS} {R : Int32 × Int32 × Int32 × Int32} {mn : Int32} {C N : Nat → Int32} (hS : mo_at H S R mn C N) {f x y : Nat} (hf : f < S.2.2.1.2.1.1) (hx : x < S.2.2.1.1.1) (hy : y < S.2.2.1.1.2.1) : ex_Met mX10_layWindow (d + 4) 0 0 H [.ref 86, .int (nI f), .int (nI x), .int (nI y)] (fun H' r => r = none ∧ ex_ch H H' [86, 96] ∧ ∃ n C', mo_at H' S R (nI n) C' N ∧ srt C' n (cnv S.2.2.1.1 (S.2.2.1.2.1.2 f) S.2.2.1.2.2.1 x y) ∧ n ≤ 90) := by
  obtain ⟨a1, ⟨hfi, hsd, hkp⟩, ⟨W, a2, hw0, ⟨hcn, hwh⟩, hwi⟩, ⟨T, a3, htn, htx⟩, ⟨F, a4, hfl⟩, ⟨IF, IL, IS, a5, a6, a7, him⟩, ⟨BX, BY, BG, a8, a9, a10, hbn, hbk⟩, a11, a12⟩ := id hS
  obtain ⟨⟨⟨hz1, hz2, hz3, hz4⟩, hgm⟩, hW0, hW1, hWd⟩ := id hw0
  have hg := hgm _ (pi_lt hx hy)
  obtain ⟨f1, f2, f3, f4, f5, f6⟩ := (hfl.2.2 f hf).2
  change (S.2.2.1.2.1.2 f).1 ≤ 4 at f1
  change (S.2.2.1.2.1.2 f).2.1 ≤ 4 at f2
  change (S.2.2.1.2.1.2 f).2.2.2.1 ≤ 4 at f4
  change 1 ≤ (S.2.2.1.2.1.2 f).2.2.2.2 at f5
  change (S.2.2.1.2.1.2 f).2.2.2.2 ≤ 9 at f6
  have hcnv : cnv S.2.2.1.1 (S.2.2.1.2.1.2 f) S.2.2.1.2.2.1 x y = (sx (S.2.2.1.1.2.2.2 (y * S.2.2.1.1.1 + x)) (S.2.2.1.1.2.2.1 (y * S.2.2.1.1.1 + x)) (S.2.2.1.2.1.2 f).2.2.2.2 (S.2.2.1.2.1.2 f).2.1 (S.2.2.1.2.1.2 f).1 (2 * (S.2.2.1.2.1.2 f).2.1 + 1) 0 (fl (fun r c => fl (fun t c => pl S.2.2.1.1.1 S.2.2.1.1.2.2.1 S.2.2.1.1.2.2.2 (S.2.2.1.2.1.2 f).2.2.2.1 S.2.2.1.2.2.1 c (sf (S.2.2.1.2.1.2 f).2.2.2.1 S.2.2.1.1.2.1 (y + r) (S.2.2.1.2.1.2 f).2.1) (sf (S.2.2.1.2.1.2 f).2.2.2.1 S.2.2.1.1.1 (x + t) (S.2.2.1.2.1.2 f).1)) (2 * (S.2.2.1.2.1.2 f).1 + 1) c) (2 * (S.2.2.1.2.1.2 f).2.1 + 1) (fun _ => 0))) := by
    unfold sx
    show (if S.2.2.1.1.2.2.2 (y * S.2.2.1.1.1 + x) = 0 then _ else _) = _
    by_cases hm : S.2.2.1.1.2.2.2 (y * S.2.2.1.1.1 + x) = 0
    · rw [if_pos hm, if_pos ⟨hm, Or.inl (by omega)⟩]
      rfl
    · rw [if_neg hm, if_neg (fun q => hm q.1)]
      rfl
  rw [hcnv]
  refine ex_meth [(0, .ref 86), (1, .int (nI f)), (2, .int (nI x)), (3, .int (nI y))] rfl rfl rfl (fun b => Nat.le_of_ble_eq_true rfl) ?_
  refine ew_aload_n (M := mX10_layWindow) dX10_layWindow_0 rfl (Or.inr (Or.inl ⟨_, rfl⟩)) ?_
  refine ew_iconst (M := mX10_layWindow) dX10_layWindow_1 (v := nI 0) (by decide) ?_
  refine ew_put (M := mX10_layWindow) dX10_layWindow_2 fX10_121 (by repeat (first | with_reducible assumption | refine ex_eq ?_ | refine ex_ne ?_ (by omega) | exact ex_lt (by with_reducible assumption) | rw [List.length_set] | assumption)) (by exact Nat.le_of_ble_eq_true rfl) ⟨rfl, rfl, fun _ h => by cases h⟩ ?_
  have hS2 : mo_at (H.set 86 (mob (nI S.2.2.2.2.2.1.1) (nI (S.2.2.2.1 0 + 2 * S.2.2.2.1 1)) (nI S.2.2.1.2.2.2) (nI S.1.1) S.2.1 (nI S.2.2.1.2.2.1) (nI S.2.2.2.2.2.2.1) R.1 R.2.1 R.2.2.1 R.2.2.2 (nI 0))) S R (nI 0) C N := mo_mn hS (ex_ch.rf.set (by simp)) (ex_eq (ex_lt a1)) (ex_ne a11 (by decide))
  have b1 := hS2.1
  change ex_W _ _ _ _ _ (H.set 86 (mob (nI S.2.2.2.2.2.1.1) (nI (S.2.2.2.1 0 + 2 * S.2.2.2.1 1)) (nI S.2.2.1.2.2.2) (nI S.1.1) S.2.1 (nI S.2.2.1.2.2.1) (nI S.2.2.2.2.2.2.1) R.1 R.2.1 R.2.2.1 R.2.2.2 (nI 0))) _ _ _ _ _
  refine ew_aload_n (M := mX10_layWindow) dX10_layWindow_5 rfl (Or.inr (Or.inl ⟨_, rfl⟩)) ?_
  refine ew_iload_n (M := mX10_layWindow) dX10_layWindow_6 rfl ?_
  refine ew_iconst (M := mX10_layWindow) dX10_layWindow_7 (v := nI 1) (by decide) ?_
  refine ew_callV (M := mX10_layWindow) dX10_layWindow_8 vX10_143 (by repeat (first | with_reducible assumption | refine ex_eq ?_ | refine ex_ne ?_ (by omega) | exact ex_lt (by with_reducible assumption) | rw [List.length_set] | assumption)) rfl (ms_part1 hS2 hf) rfl (Nat.le_of_ble_eq_true rfl) ⟨Nat.le_refl _, Nat.le_refl _⟩ rfl (fun H8 r8 q8 => ?_)
  obtain ⟨rfl, rfl⟩ := q8
  refine ew_ineg (M := mX10_layWindow) dX10_layWindow_11 ?_
  rw [nI_ng]
  refine ew_istore (M := mX10_layWindow) dX10_layWindow_12 (by decide) rfl ?_
  refine ew_ls [(0, .ref 86), (1, .int (nI f)), (2, .int (nI x)), (3, .int (nI y)), (4, .int (nI 0 - nI (S.2.2.1.2.1.2 f).2.1))] ⟨rfl, rfl, rfl, rfl, rfl, trivial⟩ ?_
  refine fl_down (F := fun r c => fl (fun t c => pl S.2.2.1.1.1 S.2.2.1.1.2.2.1 S.2.2.1.1.2.2.2 (S.2.2.1.2.1.2 f).2.2.2.1 S.2.2.1.2.2.1 c (sf (S.2.2.1.2.1.2 f).2.2.2.1 S.2.2.1.1.2.1 (y + r) (S.2.2.1.2.1.2 f).2.1) (sf (S.2.2.1.2.1.2 f).2.2.2.1 S.2.2.1.1.1 (x + t) (S.2.2.1.2.1.2 f).1)) (2 * (S.2.2.1.2.1.2 f).1 + 1) c) (P := fun r c => ∀ (H2 : ex_H) (n : Nat) (C2 : Nat → Int32), ex_ch H H2 [86, 96] → mo_at H2 S R (nI n) C2 N → srt C2 n (sx (S.2.2.1.1.2.2.2 (y * S.2.2.1.1.1 + x)) (S.2.2.1.1.2.2.1 (y * S.2.2.1.1.1 + x)) (S.2.2.1.2.1.2 f).2.2.2.2 (S.2.2.1.2.1.2 f).2.1 (S.2.2.1.2.1.2 f).1 r 0 c) → n ≤ r * 9 + (if (S.2.2.1.2.1.2 f).2.1 < r then 8 else 0) → ex_W mX10_layWindow (d + 4) 0 0 _ H2 14 [(0, .ref 86), (1, .int (nI f)), (2, .int (nI x)), (3, .int (nI y)), (4, .int (nI r - nI (S.2.2.1.2.1.2 f).2.1))] [] 0 0) (2 * (S.2.2.1.2.1.2 f).2.1 + 1) (fun _ => 0) (fun r c hr _ ko => ?_) ?_ _ 0 C (ex_ch.rf.set (by simp)) hS2 ?_ (by omega)
  · intro H2 n C2 hc2 hS2 hs2 hn2
    have b1 := hS2.1
    refine ew_iload (M := mX10_layWindow) dX10_layWindow_14 rfl ?_
    refine ew_aload_n (M := mX10_layWindow) dX10_layWindow_16 rfl (Or.inr (Or.inl ⟨_, rfl⟩)) ?_
    refine ew_iload_n (M := mX10_layWindow) dX10_layWindow_17 rfl ?_
    refine ew_iconst (M := mX10_layWindow) dX10_layWindow_18 (v := nI 1) (by decide) ?_
    refine ew_callV (M := mX10_layWindow) dX10_layWindow_19 vX10_143 (by repeat (first | with_reducible assumption | refine ex_eq ?_ | refine ex_ne ?_ (by omega) | exact ex_lt (by with_reducible assumption) | rw [List.length_set] | assumption)) rfl (ms_part1 hS2 hf) rfl (Nat.le_of_ble_eq_true rfl) ⟨Nat.le_refl _, Nat.le_refl _⟩ rfl (fun H19 r19 q19 => ?_)
    obtain ⟨rfl, rfl⟩ := q19
    refine ew_icmp_gt (M := mX10_layWindow) (tgt := 85) dX10_layWindow_22 rfl (fun h => absurd h (fun q => by rw [lw_gt _ (by omega) _ (by omega)] at q; omega)) (fun _ => ?_)
    refine ew_aload_n (M := mX10_layWindow) dX10_layWindow_25 rfl (Or.inr (Or.inl ⟨_, rfl⟩)) ?_
    refine ew_iload_n (M := mX10_layWindow) dX10_layWindow_26 rfl ?_
    refine ew_iconst (M := mX10_layWindow) dX10_layWindow_27 (v := nI 0) (by decide) ?_
    refine ew_callV (M := mX10_layWindow) dX10_layWindow_28 vX10_143 (by repeat (first | with_reducible assumption | refine ex_eq ?_ | refine ex_ne ?_ (by omega) | exact ex_lt (by with_reducible assumption) | rw [List.length_set] | assumption)) rfl (ms_part0 hS2 hf) rfl (Nat.le_of_ble_eq_true rfl) ⟨Nat.le_refl _, Nat.le_refl _⟩ rfl (fun H28 r28 q28 => ?_)
    obtain ⟨rfl, rfl⟩ := q28
    refine ew_ineg (M := mX10_layWindow) dX10_layWindow_31 ?_
    rw [nI_ng]
    refine ew_istore (M := mX10_layWindow) dX10_layWindow_32 (by decide) rfl ?_
    refine ew_ls [(0, .ref 86), (1, .int (nI f)), (2, .int (nI x)), (3, .int (nI y)), (4, .int (nI r - nI (S.2.2.1.2.1.2 f).2.1)), (5, .int (nI 0 - nI (S.2.2.1.2.1.2 f).1))] ⟨rfl, rfl, rfl, rfl, rfl, rfl, trivial⟩ ?_
    refine fl_down (F := (fun t c => pl S.2.2.1.1.1 S.2.2.1.1.2.2.1 S.2.2.1.1.2.2.2 (S.2.2.1.2.1.2 f).2.2.2.1 S.2.2.1.2.2.1 c (sf (S.2.2.1.2.1.2 f).2.2.2.1 S.2.2.1.1.2.1 (y + r) (S.2.2.1.2.1.2 f).2.1) (sf (S.2.2.1.2.1.2 f).2.2.2.1 S.2.2.1.1.1 (x + t) (S.2.2.1.2.1.2 f).1))) (P := fun q c => ∀ (H2 : ex_H) (n : Nat) (C2 : Nat → Int32), ex_ch H H2 [86, 96] → mo_at H2 S R (nI n) C2 N → srt C2 n (sx (S.2.2.1.1.2.2.2 (y * S.2.2.1.1.1 + x)) (S.2.2.1.1.2.2.1 (y * S.2.2.1.1.1 + x)) (S.2.2.1.2.1.2 f).2.2.2.2 (S.2.2.1.2.1.2 f).2.1 (S.2.2.1.2.1.2 f).1 r q c) → n ≤ r * 9 + q + (if (S.2.2.1.2.1.2 f).2.1 < r ∨ (r = (S.2.2.1.2.1.2 f).2.1 ∧ (S.2.2.1.2.1.2 f).1 < q) then 8 else 0) → ex_W mX10_layWindow (d + 4) 0 0 _ H2 34 [(0, .ref 86), (1, .int (nI f)), (2, .int (nI x)), (3, .int (nI y)), (4, .int (nI r - nI (S.2.2.1.2.1.2 f).2.1)), (5, .int (nI q - nI (S.2.2.1.2.1.2 f).1))] [] 0 0) (2 * (S.2.2.1.2.1.2 f).1 + 1) c (fun q c hq _ ki => ?_) ?_ H2 n C2 hc2 hS2 hs2 (by split at hn2 <;> split <;> omega)
    · intro H3 n3 C3 hc3 hS3 hs3 hn3
      have b13 := hS3.1
      by_cases hself : r = (S.2.2.1.2.1.2 f).2.1 ∧ q = (S.2.2.1.2.1.2 f).1
      · obtain ⟨rfl, rfl⟩ := hself
        have e1 : sf (S.2.2.1.2.1.2 f).2.2.2.1 S.2.2.1.1.1 (x + (S.2.2.1.2.1.2 f).1) (S.2.2.1.2.1.2 f).1 = some x := by rw [sf_in (by omega)]; simp
        have e2 : sf (S.2.2.1.2.1.2 f).2.2.2.1 S.2.2.1.1.2.1 (y + (S.2.2.1.2.1.2 f).2.1) (S.2.2.1.2.1.2 f).2.1 = some y := by rw [sf_in (by omega)]; simp
        rw [if_neg (by omega)] at hn3
        have e3 : (sx (S.2.2.1.1.2.2.2 (y * S.2.2.1.1.1 + x)) (S.2.2.1.1.2.2.1 (y * S.2.2.1.1.1 + x)) (S.2.2.1.2.1.2 f).2.2.2.2 (S.2.2.1.2.1.2 f).2.1 (S.2.2.1.2.1.2 f).1 (S.2.2.1.2.1.2 f).2.1 (S.2.2.1.2.1.2 f).1 c) = c := by
          unfold sx
          rw [if_neg (by omega)]
        have e4 : (sx (S.2.2.1.1.2.2.2 (y * S.2.2.1.1.1 + x)) (S.2.2.1.1.2.2.1 (y * S.2.2.1.1.1 + x)) (S.2.2.1.2.1.2 f).2.2.2.2 (S.2.2.1.2.1.2 f).2.1 (S.2.2.1.2.1.2 f).1 (S.2.2.1.2.1.2 f).2.1 ((S.2.2.1.2.1.2 f).1 + 1) (pl S.2.2.1.1.1 S.2.2.1.1.2.2.1 S.2.2.1.1.2.2.2 (S.2.2.1.2.1.2 f).2.2.2.1 S.2.2.1.2.2.1 c (sf (S.2.2.1.2.1.2 f).2.2.2.1 S.2.2.1.1.2.1 (y + (S.2.2.1.2.1.2 f).2.1) (S.2.2.1.2.1.2 f).2.1) (sf (S.2.2.1.2.1.2 f).2.2.2.1 S.2.2.1.1.1 (x + (S.2.2.1.2.1.2 f).1) (S.2.2.1.2.1.2 f).1))) = if S.2.2.1.1.2.2.2 (y * S.2.2.1.1.1 + x) = 0 then ca c (S.2.2.1.1.2.2.1 (y * S.2.2.1.1.1 + x)) (S.2.2.1.2.1.2 f).2.2.2.2 else c := by
          rw [e1, e2]
          unfold sx
          show (if S.2.2.1.1.2.2.2 (y * S.2.2.1.1.1 + x) = 0 ∧ _ then ca (if S.2.2.1.1.2.2.2 (y * S.2.2.1.1.1 + x) = 0 then ca c (S.2.2.1.1.2.2.1 (y * S.2.2.1.1.1 + x)) 1 else c) (S.2.2.1.1.2.2.1 (y * S.2.2.1.1.1 + x)) ((S.2.2.1.2.1.2 f).2.2.2.2 - 1) else (if S.2.2.1.1.2.2.2 (y * S.2.2.1.1.1 + x) = 0 then ca c (S.2.2.1.1.2.2.1 (y * S.2.2.1.1.1 + x)) 1 else c)) = _
          by_cases hm : S.2.2.1.1.2.2.2 (y * S.2.2.1.1.1 + x) = 0
          · rw [if_pos ⟨hm, Or.inr ⟨rfl, by omega⟩⟩, if_pos hm, if_pos hm, ca_ca, show 1 + ((S.2.2.1.2.1.2 f).2.2.2.2 - 1) = (S.2.2.1.2.1.2 f).2.2.2.2 by omega]
          · rw [if_neg (fun q => hm q.1), if_neg hm, if_neg hm]
        rw [e3] at hs3
        have z0 : nI (S.2.2.1.2.1.2 f).1 - nI (S.2.2.1.2.1.2 f).1 = 0 := (lw_z _ (by omega) _ (by omega)).mpr rfl
        have z1 : nI (S.2.2.1.2.1.2 f).2.1 - nI (S.2.2.1.2.1.2 f).2.1 = 0 := (lw_z _ (by omega) _ (by omega)).mpr rfl
        refine ew_iload (M := mX10_layWindow) dX10_layWindow_34 rfl ?_
        refine ew_aload_n (M := mX10_layWindow) dX10_layWindow_36 rfl (Or.inr (Or.inl ⟨_, rfl⟩)) ?_
        refine ew_iload_n (M := mX10_layWindow) dX10_layWindow_37 rfl ?_
        refine ew_iconst (M := mX10_layWindow) dX10_layWindow_38 (v := nI 0) (by decide) ?_
        refine ew_callV (M := mX10_layWindow) dX10_layWindow_39 vX10_143 (by repeat (first | with_reducible assumption | refine ex_eq ?_ | refine ex_ne ?_ (by omega) | exact ex_lt (by with_reducible assumption) | rw [List.length_set] | assumption)) rfl (ms_part0 hS3 hf) rfl (Nat.le_of_ble_eq_true rfl) ⟨Nat.le_refl _, Nat.le_refl _⟩ rfl (fun H39 r39 q39 => ?_)
        obtain ⟨rfl, rfl⟩ := q39
        refine ew_icmp_gt (M := mX10_layWindow) (tgt := 79) dX10_layWindow_42 rfl (fun h => absurd h (fun e => by rw [lw_gt _ (by omega) _ (by omega)] at e; omega)) (fun _ => ?_)
        refine ew_aload_n (M := mX10_layWindow) dX10_layWindow_45 rfl (Or.inr (Or.inl ⟨_, rfl⟩)) ?_
        refine ew_iload_n (M := mX10_layWindow) dX10_layWindow_46 rfl ?_
        refine ew_iload_n (M := mX10_layWindow) dX10_layWindow_47 rfl ?_
        refine ew_iload (M := mX10_layWindow) dX10_layWindow_48 rfl ?_
        refine ew_iadd (M := mX10_layWindow) dX10_layWindow_50 ?_
        rw [nI_xq, nI_sb (a := x + (S.2.2.1.2.1.2 f).1) (by omega), Nat.add_sub_cancel]
        refine ew_iload_n (M := mX10_layWindow) dX10_layWindow_51 rfl ?_
        refine ew_iload (M := mX10_layWindow) dX10_layWindow_52 rfl ?_
        refine ew_iadd (M := mX10_layWindow) dX10_layWindow_54 ?_
        rw [nI_xq, nI_sb (a := y + (S.2.2.1.2.1.2 f).2.1) (by omega), Nat.add_sub_cancel]
        refine ew_iload (M := mX10_layWindow) dX10_layWindow_55 rfl ?_
        refine ew_if_ne (M := mX10_layWindow) (tgt := 69) dX10_layWindow_57 rfl (fun h => absurd z0 h) (fun _ => ?_)
        refine ew_iload (M := mX10_layWindow) dX10_layWindow_60 rfl ?_
        refine ew_if_ne (M := mX10_layWindow) (tgt := 69) dX10_layWindow_62 rfl (fun h => absurd z1 h) (fun _ => ?_)
        refine ew_iconst (M := mX10_layWindow) dX10_layWindow_65 (v := nI 1) (by decide) ?_
        refine ew_goto (M := mX10_layWindow) (tgt := 70) dX10_layWindow_66 rfl ?_
        refine ew_callV (M := mX10_layWindow) dX10_layWindow_70 vX10_150 (by repeat (first | with_reducible assumption | refine ex_eq ?_ | refine ex_ne ?_ (by omega) | exact ex_lt (by with_reducible assumption) | rw [List.length_set] | assumption)) rfl (ms_countAt_s hS3 hs3 (by omega) hf hx hy) rfl (Nat.le_of_ble_eq_true rfl) ⟨Nat.le_refl _, Nat.le_refl _⟩ rfl (fun H70 r70 q70 => ?_)
        obtain ⟨rfl, hc4, n4, C4, hS4, hs4, hn4⟩ := q70
        rw [← e4] at hs4
        refine ew_iinc (M := mX10_layWindow) dX10_layWindow_73 rfl (ex_inc2 (S.2.2.1.2.1.2 f).1 (S.2.2.1.2.1.2 f).1) (by decide) rfl ?_
        refine ew_goto (M := mX10_layWindow) (tgt := 34) dX10_layWindow_76 rfl ?_
        refine ew_ls _ ?_ (ki H70 n4 C4 (hc3.tr hc4 (by simp)) hS4 hs4 (by rw [if_pos (Or.inr ⟨rfl, by omega⟩)]; omega))
        exact ⟨rfl, rfl, rfl, rfl, rfl, rfl, trivial⟩
      · have hn95 : n3 < 96 := by split at hn3 <;> omega
        refine ew_iload (M := mX10_layWindow) dX10_layWindow_34 rfl ?_
        refine ew_aload_n (M := mX10_layWindow) dX10_layWindow_36 rfl (Or.inr (Or.inl ⟨_, rfl⟩)) ?_
        refine ew_iload_n (M := mX10_layWindow) dX10_layWindow_37 rfl ?_
        refine ew_iconst (M := mX10_layWindow) dX10_layWindow_38 (v := nI 0) (by decide) ?_
        refine ew_callV (M := mX10_layWindow) dX10_layWindow_39 vX10_143 (by repeat (first | with_reducible assumption | refine ex_eq ?_ | refine ex_ne ?_ (by omega) | exact ex_lt (by with_reducible assumption) | rw [List.length_set] | assumption)) rfl (ms_part0 hS3 hf) rfl (Nat.le_of_ble_eq_true rfl) ⟨Nat.le_refl _, Nat.le_refl _⟩ rfl (fun H39 r39 q39 => ?_)
        obtain ⟨rfl, rfl⟩ := q39
        refine ew_icmp_gt (M := mX10_layWindow) (tgt := 79) dX10_layWindow_42 rfl (fun h => absurd h (fun e => by rw [lw_gt _ (by omega) _ (by omega)] at e; omega)) (fun _ => ?_)
        refine ew_aload_n (M := mX10_layWindow) dX10_layWindow_45 rfl (Or.inr (Or.inl ⟨_, rfl⟩)) ?_
        refine ew_iload_n (M := mX10_layWindow) dX10_layWindow_46 rfl ?_
        refine ew_iload_n (M := mX10_layWindow) dX10_layWindow_47 rfl ?_
        refine ew_iload (M := mX10_layWindow) dX10_layWindow_48 rfl ?_
        refine ew_iadd (M := mX10_layWindow) dX10_layWindow_50 ?_
        rw [nI_xq]
        refine ew_iload_n (M := mX10_layWindow) dX10_layWindow_51 rfl ?_
        refine ew_iload (M := mX10_layWindow) dX10_layWindow_52 rfl ?_
        refine ew_iadd (M := mX10_layWindow) dX10_layWindow_54 ?_
        rw [nI_xq]
        refine ew_iload (M := mX10_layWindow) dX10_layWindow_55 rfl ?_
        refine ew_if_ne (M := mX10_layWindow) (tgt := 69) dX10_layWindow_57 rfl (fun c57 => ?_) (fun c57 => ?_)
        · refine ew_iconst (M := mX10_layWindow) dX10_layWindow_69 (v := nI 0) (by decide) ?_
          refine ew_callV (M := mX10_layWindow) dX10_layWindow_70 vX10_150 (by repeat (first | with_reducible assumption | refine ex_eq ?_ | refine ex_ne ?_ (by omega) | exact ex_lt (by with_reducible assumption) | rw [List.length_set] | assumption)) rfl (ms_countAt_o hS3 hs3 hn95 hf (by omega) (by omega)) rfl (Nat.le_of_ble_eq_true rfl) ⟨Nat.le_refl _, Nat.le_refl _⟩ rfl (fun H70 r70 q70 => ?_)
          obtain ⟨rfl, hc4, n4, C4, hS4, hs4, hn4⟩ := q70
          rw [pl_sx _ _ hself] at hs4
          refine ew_iinc (M := mX10_layWindow) dX10_layWindow_73 rfl (ex_inc2 q (S.2.2.1.2.1.2 f).1) (by decide) rfl ?_
          refine ew_goto (M := mX10_layWindow) (tgt := 34) dX10_layWindow_76 rfl ?_
          refine ew_ls _ ?_ (ki H70 n4 C4 (hc3.tr hc4 (by simp)) hS4 hs4 (by split at hn3 <;> split <;> omega))
          exact ⟨rfl, rfl, rfl, rfl, rfl, rfl, trivial⟩
        · refine ew_iload (M := mX10_layWindow) dX10_layWindow_60 rfl ?_
          refine ew_if_ne (M := mX10_layWindow) (tgt := 69) dX10_layWindow_62 rfl (fun c62 => ?_) (fun c62 => ?_)
          · refine ew_iconst (M := mX10_layWindow) dX10_layWindow_69 (v := nI 0) (by decide) ?_
            refine ew_callV (M := mX10_layWindow) dX10_layWindow_70 vX10_150 (by repeat (first | with_reducible assumption | refine ex_eq ?_ | refine ex_ne ?_ (by omega) | exact ex_lt (by with_reducible assumption) | rw [List.length_set] | assumption)) rfl (ms_countAt_o hS3 hs3 hn95 hf (by omega) (by omega)) rfl (Nat.le_of_ble_eq_true rfl) ⟨Nat.le_refl _, Nat.le_refl _⟩ rfl (fun H70 r70 q70 => ?_)
            obtain ⟨rfl, hc4, n4, C4, hS4, hs4, hn4⟩ := q70
            rw [pl_sx _ _ hself] at hs4
            refine ew_iinc (M := mX10_layWindow) dX10_layWindow_73 rfl (ex_inc2 q (S.2.2.1.2.1.2 f).1) (by decide) rfl ?_
            refine ew_goto (M := mX10_layWindow) (tgt := 34) dX10_layWindow_76 rfl ?_
            refine ew_ls _ ?_ (ki H70 n4 C4 (hc3.tr hc4 (by simp)) hS4 hs4 (by split at hn3 <;> split <;> omega))
            exact ⟨rfl, rfl, rfl, rfl, rfl, rfl, trivial⟩
          · rw [lw_z _ (by omega) _ (by omega)] at c57 c62
            exact absurd ⟨c62, c57⟩ hself
    · intro H3 n3 C3 hc3 hS3 hs3 hn3
      have b13 := hS3.1
      refine ew_iload (M := mX10_layWindow) dX10_layWindow_34 rfl ?_
      refine ew_aload_n (M := mX10_layWindow) dX10_layWindow_36 rfl (Or.inr (Or.inl ⟨_, rfl⟩)) ?_
      refine ew_iload_n (M := mX10_layWindow) dX10_layWindow_37 rfl ?_
      refine ew_iconst (M := mX10_layWindow) dX10_layWindow_38 (v := nI 0) (by decide) ?_
      refine ew_callV (M := mX10_layWindow) dX10_layWindow_39 vX10_143 (by repeat (first | with_reducible assumption | refine ex_eq ?_ | refine ex_ne ?_ (by omega) | exact ex_lt (by with_reducible assumption) | rw [List.length_set] | assumption)) rfl (ms_part0 hS3 hf) rfl (Nat.le_of_ble_eq_true rfl) ⟨Nat.le_refl _, Nat.le_refl _⟩ rfl (fun H39 r39 q39 => ?_)
      obtain ⟨rfl, rfl⟩ := q39
      refine ew_icmp_gt (M := mX10_layWindow) (tgt := 79) dX10_layWindow_42 rfl (fun _ => ?_) (fun h => absurd ((lw_gt _ (by omega) _ (by omega)).mpr (by omega)) h)
      refine ew_iinc (M := mX10_layWindow) dX10_layWindow_79 rfl (ex_inc2 r (S.2.2.1.2.1.2 f).2.1) (by decide) rfl ?_
      refine ew_goto (M := mX10_layWindow) (tgt := 14) dX10_layWindow_82 rfl ?_
      refine ew_ls _ ?_ (ko H3 n3 C3 hc3 hS3 (by rw [sx_iff (r' := r) (q' := 2 * (S.2.2.1.2.1.2 f).1 + 1) (by omega)]; exact hs3) (by split at hn3 <;> split <;> omega))
      exact ⟨rfl, rfl, rfl, rfl, rfl, trivial⟩
  · intro H2 n C2 hc2 hS2 hs2 hn2
    have b1 := hS2.1
    refine ew_iload (M := mX10_layWindow) dX10_layWindow_14 rfl ?_
    refine ew_aload_n (M := mX10_layWindow) dX10_layWindow_16 rfl (Or.inr (Or.inl ⟨_, rfl⟩)) ?_
    refine ew_iload_n (M := mX10_layWindow) dX10_layWindow_17 rfl ?_
    refine ew_iconst (M := mX10_layWindow) dX10_layWindow_18 (v := nI 1) (by decide) ?_
    refine ew_callV (M := mX10_layWindow) dX10_layWindow_19 vX10_143 (by repeat (first | with_reducible assumption | refine ex_eq ?_ | refine ex_ne ?_ (by omega) | exact ex_lt (by with_reducible assumption) | rw [List.length_set] | assumption)) rfl (ms_part1 hS2 hf) rfl (Nat.le_of_ble_eq_true rfl) ⟨Nat.le_refl _, Nat.le_refl _⟩ rfl (fun H19 r19 q19 => ?_)
    obtain ⟨rfl, rfl⟩ := q19
    refine ew_icmp_gt (M := mX10_layWindow) (tgt := 85) dX10_layWindow_22 rfl (fun _ => ?_) (fun h => absurd ((lw_gt _ (by omega) _ (by omega)).mpr (by omega)) h)
    refine ew_vret (M := mX10_layWindow) dX10_layWindow_85 rfl (Nat.le_refl _) (Nat.le_refl _) ?_
    exact ⟨rfl, hc2, n, C2, hS2, hs2, by rw [if_pos (by omega)] at hn2; omega⟩
  · have e3 : (sx (S.2.2.1.1.2.2.2 (y * S.2.2.1.1.1 + x)) (S.2.2.1.1.2.2.1 (y * S.2.2.1.1.1 + x)) (S.2.2.1.2.1.2 f).2.2.2.2 (S.2.2.1.2.1.2 f).2.1 (S.2.2.1.2.1.2 f).1 0 0 (fun _ => 0)) = (fun _ => 0) := by
      unfold sx
      rw [if_neg (by omega)]
    rw [e3]
    exact ⟨bs_zero 0 256, fun k hk => absurd hk (Nat.not_lt_zero k)⟩
theorem ls_eq {P : PT} {v : FV} {fi x y n : Nat} (h : bs (cnv P v fi x y) 0 256 = n) : lsN P v fi x y = n := h
theorem ms_lastOf {d : Nat} {H : ex_H} {S : SS} {R : Int32 × Int32 × Int32 × Int32} {mn : Int32} {C N : Nat → Int32} (hS : mo_at H S R mn C N) {f x y : Nat} (hf : f < S.2.2.1.2.1.1) (hx : x < S.2.2.1.1.1) (hy : y < S.2.2.1.1.2.1) : ex_Met mX10_lastOf (d + 5) 0 0 H [.ref 86, .int (nI f), .int (nI x), .int (nI y)] (fun H' r => r = some (.int (lsI S.2.2.1.1 (S.2.2.1.2.1.2 f) S.2.2.1.2.2.1 x y)) ∧ ex_ch H H' [86, 96] ∧ ∃ n C', mo_at H' S R (nI n) C' N ∧ srt C' n (cnv S.2.2.1.1 (S.2.2.1.2.1.2 f) S.2.2.1.2.2.1 x y) ∧ n ≤ 90) := by
  obtain ⟨a1, ⟨hfi, hsd, hkp⟩, ⟨W, a2, hw0, ⟨hcn, hwh⟩, hwi⟩, ⟨T, a3, htn, htx⟩, ⟨F, a4, hfl⟩, ⟨IF, IL, IS, a5, a6, a7, him⟩, ⟨BX, BY, BG, a8, a9, a10, hbn, hbk⟩, a11, a12⟩ := id hS
  obtain ⟨f1, f2, f3, f4, f5, f6⟩ := (hfl.2.2 f hf).2
  change (S.2.2.1.2.1.2 f).2.2.1 ≤ 100 at f3
  refine ex_meth [(0, .ref 86), (1, .int (nI f)), (2, .int (nI x)), (3, .int (nI y))] rfl rfl rfl (fun b => Nat.le_of_ble_eq_true rfl) ?_
  refine ew_aload_n (M := mX10_lastOf) dX10_lastOf_0 rfl (Or.inr (Or.inl ⟨_, rfl⟩)) ?_
  refine ew_iload_n (M := mX10_lastOf) dX10_lastOf_1 rfl ?_
  refine ew_iload_n (M := mX10_lastOf) dX10_lastOf_2 rfl ?_
  refine ew_iload_n (M := mX10_lastOf) dX10_lastOf_3 rfl ?_
  refine ew_callV (M := mX10_lastOf) dX10_lastOf_4 vX10_154 (by repeat (first | with_reducible assumption | refine ex_eq ?_ | refine ex_ne ?_ (by omega) | exact ex_lt (by with_reducible assumption) | rw [List.length_set] | assumption)) rfl (ms_layWindow hS hf hx hy) rfl (Nat.le_of_ble_eq_true rfl) ⟨Nat.le_refl _, Nat.le_refl _⟩ rfl (fun H4 r4 q4 => ?_)
  obtain ⟨rfl, hc2, n, C2, hS2, hs2, hn2⟩ := q4
  have b1 := hS2.1
  obtain ⟨-, -, -, -, -, -, -, b11, -⟩ := id hS2
  have eN := ls_eq hs2.1
  refine ew_aload_n (M := mX10_lastOf) dX10_lastOf_7 rfl (Or.inr (Or.inl ⟨_, rfl⟩)) ?_
  refine ew_get (M := mX10_lastOf) dX10_lastOf_8 fX10_121 (by repeat (first | with_reducible assumption | refine ex_eq ?_ | refine ex_ne ?_ (by omega) | exact ex_lt (by with_reducible assumption) | rw [List.length_set] | assumption)) (by rfl) ?_
  refine ew_if_ne (M := mX10_lastOf) (tgt := 18) dX10_lastOf_11 rfl (fun c11 => ?_) (fun c11 => ?_)
  · rw [nI_z (by omega)] at c11
    have eL : (S.2.2.1.2.1.2 f).2.2.1 * (n - 1) / 100 < n := by
      have h1 : (S.2.2.1.2.1.2 f).2.2.1 * (n - 1) ≤ 100 * (n - 1) := Nat.mul_le_mul_right _ f3
      omega
    have eB : (S.2.2.1.2.1.2 f).2.2.1 * (n - 1) < 2 ^ 31 := by
      have h1 : (S.2.2.1.2.1.2 f).2.2.1 * (n - 1) ≤ 100 * 90 := Nat.mul_le_mul f3 (by omega)
      omega
    refine ew_aload_n (M := mX10_lastOf) dX10_lastOf_18 rfl (Or.inr (Or.inl ⟨_, rfl⟩)) ?_
    refine ew_get (M := mX10_lastOf) dX10_lastOf_19 fX10_41 (by repeat (first | with_reducible assumption | refine ex_eq ?_ | refine ex_ne ?_ (by omega) | exact ex_lt (by with_reducible assumption) | rw [List.length_set] | assumption)) (by rfl) ?_
    refine ew_aload_n (M := mX10_lastOf) dX10_lastOf_22 rfl (Or.inr (Or.inl ⟨_, rfl⟩)) ?_
    refine ew_iload_n (M := mX10_lastOf) dX10_lastOf_23 rfl ?_
    refine ew_iconst (M := mX10_lastOf) dX10_lastOf_24 (v := nI 2) (by decide) ?_
    refine ew_callV (M := mX10_lastOf) dX10_lastOf_25 vX10_143 (by repeat (first | with_reducible assumption | refine ex_eq ?_ | refine ex_ne ?_ (by omega) | exact ex_lt (by with_reducible assumption) | rw [List.length_set] | assumption)) rfl (ms_part2 hS2 hf) rfl (Nat.le_of_ble_eq_true rfl) ⟨Nat.le_refl _, Nat.le_refl _⟩ rfl (fun H25 r25 q25 => ?_)
    obtain ⟨rfl, rfl⟩ := q25
    refine ew_aload_n (M := mX10_lastOf) dX10_lastOf_28 rfl (Or.inr (Or.inl ⟨_, rfl⟩)) ?_
    refine ew_get (M := mX10_lastOf) dX10_lastOf_29 fX10_121 (by repeat (first | with_reducible assumption | refine ex_eq ?_ | refine ex_ne ?_ (by omega) | exact ex_lt (by with_reducible assumption) | rw [List.length_set] | assumption)) (by rfl) ?_
    refine ew_iconst (M := mX10_lastOf) dX10_lastOf_32 (v := nI 1) (by decide) ?_
    refine ew_isub (M := mX10_lastOf) dX10_lastOf_33 ?_
    rw [nI_s1 (by omega)]
    refine ew_imul (M := mX10_lastOf) dX10_lastOf_34 ?_
    rw [pk_mul]
    refine ew_bipush (M := mX10_lastOf) dX10_lastOf_35 (v := nI 100) (by decide) ?_
    refine ew_idiv (M := mX10_lastOf) dX10_lastOf_37 (by decide) ?_
    rw [pk_div eB (by decide) (by decide)]
    refine ew_iald (M := mX10_lastOf) ((S.2.2.1.2.1.2 f).2.2.1 * (n - 1) / 100) dX10_lastOf_38 (by repeat (first | with_reducible assumption | refine ex_eq ?_ | refine ex_ne ?_ (by omega) | exact ex_lt (by with_reducible assumption) | rw [List.length_set] | assumption)) ⟨rfl, by omega, by decide⟩ ?_
    refine ew_iret (M := mX10_lastOf) dX10_lastOf_39 rfl (by first | rfl | decide) (Nat.le_refl _) (Nat.le_refl _) ?_
    first
    | exact ⟨by unfold lsI lsV; rw [if_neg (by omega), eN, hs2.2 _ eL]; rfl, hc2, n, C2, hS2, hs2, hn2⟩
    | exact ⟨by unfold lsI; rw [if_pos (by omega)], hc2, n, C2, hS2, hs2, hn2⟩
  · rw [nI_z (by omega)] at c11
    refine ew_iconst (M := mX10_lastOf) dX10_lastOf_14 (v := (-1)) (by decide) ?_
    refine ew_goto (M := mX10_lastOf) (tgt := 39) dX10_lastOf_15 rfl ?_
    refine ew_iret (M := mX10_lastOf) dX10_lastOf_39 rfl (by first | rfl | decide) (Nat.le_refl _) (Nat.le_refl _) ?_
    first
    | exact ⟨by unfold lsI lsV; rw [if_neg (by omega), eN, hs2.2 _ eL]; rfl, hc2, n, C2, hS2, hs2, hn2⟩
    | exact ⟨by unfold lsI; rw [if_pos (by omega)], hc2, n, C2, hS2, hs2, hn2⟩
theorem ms_below {d : Nat} {H : ex_H} {S : SS} {R : Int32 × Int32 × Int32 × Int32} {C N : Nat → Int32} {n : Nat} {c : Nat → Nat} (hS : mo_at H S R (nI n) C N) (hs : srt C n c) (hn : n ≤ 90) {g : Nat} (hg : g < 256) : ex_Met mX10_below d 0 0 H [.ref 86, .int (nI g)] (ex_r H (.int (nI (bs c 0 g)))) := by
  obtain ⟨a1, ⟨hfi, hsd, hkp⟩, ⟨W, a2, hw0, ⟨hcn, hwh⟩, hwi⟩, ⟨T, a3, htn, htx⟩, ⟨F, a4, hfl⟩, ⟨IF, IL, IS, a5, a6, a7, him⟩, ⟨BX, BY, BG, a8, a9, a10, hbn, hbk⟩, a11, a12⟩ := id hS
  obtain ⟨hs1, hs2⟩ := id hs
  have hle : bs c 0 g ≤ n := by rw [← hs1]; exact bs_mono c 0 (by omega)
  have hlt : ∀ k, k < n → (C k < nI g ↔ k < bs c 0 g) := fun k hk => by
    obtain ⟨s1, s2, s3⟩ := kv_spec (c := c) (k := k) (by omega)
    rw [hs2 k hk, nI_ltI (by omega) (by omega)]
    constructor
    · intro h
      have := bs_mono c 0 (show kv c k + 1 ≤ g by omega)
      omega
    · intro h
      rcases Nat.lt_or_ge (kv c k) g with e | e
      · exact e
      · have := bs_mono c 0 e
        omega
  refine ex_meth [(0, .ref 86), (1, .int (nI g))] rfl rfl rfl (fun b => Nat.le_of_ble_eq_true rfl) ?_
  refine ew_iconst (M := mX10_below) dX10_below_0 (v := nI 0) (by decide) ?_
  refine ew_istore_n (M := mX10_below) dX10_below_1 (by decide) rfl ?_
  refine ew_iconst (M := mX10_below) dX10_below_2 (v := nI 0) (by decide) ?_
  refine ew_istore_n (M := mX10_below) dX10_below_3 (by decide) rfl ?_
  refine ew_ls [(0, .ref 86), (1, .int (nI g)), (2, .int (nI 0)), (3, .int (nI 0))] ⟨rfl, rfl, rfl, rfl, trivial⟩ ?_
  rw [show nI 0 = nI (min 0 (bs c 0 g)) from by rw [Nat.zero_min]]
  refine ew_ls [(0, .ref 86), (1, .int (nI g)), (2, .int (nI (min 0 (bs c 0 g)))), (3, .int (nI (min 0 (bs c 0 g))))] ⟨rfl, rfl, rfl, rfl, trivial⟩ ?_
  rw [show (3, Value.int (nI (min 0 (bs c 0 g)))) = (3, Value.int (nI 0)) from by rw [Nat.zero_min]]
  refine nat_down (P := fun t => ex_W mX10_below d 0 0 _ H 4 [(0, .ref 86), (1, .int (nI g)), (2, .int (nI (min t (bs c 0 g)))), (3, .int (nI t))] [] 0 0) n (fun t ht k => ?_) ?_
  · refine ew_iload_n (M := mX10_below) dX10_below_4 rfl ?_
    refine ew_aload_n (M := mX10_below) dX10_below_5 rfl (Or.inr (Or.inl ⟨_, rfl⟩)) ?_
    refine ew_get (M := mX10_below) dX10_below_6 fX10_121 (by repeat (first | with_reducible assumption | refine ex_eq ?_ | refine ex_ne ?_ (by omega) | exact ex_lt (by with_reducible assumption) | rw [List.length_set] | assumption)) (by rfl) ?_
    refine ew_icmp_ge (M := mX10_below) (tgt := 36) dX10_below_9 rfl (fun h => absurd h (nI_ge ht (by omega))) (fun _ => ?_)
    refine ew_iload_n (M := mX10_below) dX10_below_12 rfl ?_
    refine ew_aload_n (M := mX10_below) dX10_below_13 rfl (Or.inr (Or.inl ⟨_, rfl⟩)) ?_
    refine ew_get (M := mX10_below) dX10_below_14 fX10_41 (by repeat (first | with_reducible assumption | refine ex_eq ?_ | refine ex_ne ?_ (by omega) | exact ex_lt (by with_reducible assumption) | rw [List.length_set] | assumption)) (by rfl) ?_
    refine ew_iload_n (M := mX10_below) dX10_below_17 rfl ?_
    refine ew_iald (M := mX10_below) t dX10_below_18 (by repeat (first | with_reducible assumption | refine ex_eq ?_ | refine ex_ne ?_ (by omega) | exact ex_lt (by with_reducible assumption) | rw [List.length_set] | assumption)) ⟨rfl, by omega, by decide⟩ ?_
    refine ew_iload_n (M := mX10_below) dX10_below_19 rfl ?_
    refine ew_icmp_ge (M := mX10_below) (tgt := 27) dX10_below_20 rfl (fun c20 => ?_) (fun c20 => ?_)
    · have e : ¬ t < bs c 0 g := fun q => Int32.not_lt.mpr c20 ((hlt t ht).mpr q)
      rw [show min (t + 1) (bs c 0 g) = min t (bs c 0 g) + 0 by omega] at k
      refine ew_iconst (M := mX10_below) dX10_below_27 (v := nI 0) (by decide) ?_
      refine ew_iadd (M := mX10_below) dX10_below_28 ?_
      rw [nI_add]
      refine ew_istore_n (M := mX10_below) dX10_below_29 (by decide) rfl ?_
      refine ew_iinc (M := mX10_below) dX10_below_30 rfl (ex_inc t) (by decide) rfl ?_
      refine ew_goto (M := mX10_below) (tgt := 4) dX10_below_33 rfl ?_
      refine ew_ls _ ?_ k
      exact ⟨rfl, rfl, rfl, rfl, trivial⟩
    · have e := (hlt t ht).mp (Int32.not_le.mp c20)
      rw [show min (t + 1) (bs c 0 g) = min t (bs c 0 g) + 1 by omega] at k
      refine ew_iconst (M := mX10_below) dX10_below_23 (v := nI 1) (by decide) ?_
      refine ew_goto (M := mX10_below) (tgt := 28) dX10_below_24 rfl ?_
      refine ew_iadd (M := mX10_below) dX10_below_28 ?_
      rw [nI_add]
      refine ew_istore_n (M := mX10_below) dX10_below_29 (by decide) rfl ?_
      refine ew_iinc (M := mX10_below) dX10_below_30 rfl (ex_inc t) (by decide) rfl ?_
      refine ew_goto (M := mX10_below) (tgt := 4) dX10_below_33 rfl ?_
      refine ew_ls _ ?_ k
      exact ⟨rfl, rfl, rfl, rfl, trivial⟩
  · refine ew_iload_n (M := mX10_below) dX10_below_4 rfl ?_
    refine ew_aload_n (M := mX10_below) dX10_below_5 rfl (Or.inr (Or.inl ⟨_, rfl⟩)) ?_
    refine ew_get (M := mX10_below) dX10_below_6 fX10_121 (by repeat (first | with_reducible assumption | refine ex_eq ?_ | refine ex_ne ?_ (by omega) | exact ex_lt (by with_reducible assumption) | rw [List.length_set] | assumption)) (by rfl) ?_
    refine ew_icmp_ge (M := mX10_below) (tgt := 36) dX10_below_9 rfl (fun _ => ?_) (fun h => absurd (nI_le (Nat.le_refl _) (by omega)) h)
    refine ew_iload_n (M := mX10_below) dX10_below_36 rfl ?_
    refine ew_iret (M := mX10_below) dX10_below_37 rfl (by first | rfl | decide) (Nat.le_refl _) (Nat.le_refl _) ?_
    exact ⟨rfl, by rw [Nat.min_eq_right hle]⟩
theorem wo_out {x : Int32} (h : ∀ k, k < 4 → ¬ x = nI k) : x.toInt < 0 ∨ 3 < x.toInt := by
  by_cases h0 : x < 0
  · left; exact Int32.lt_iff_toInt_lt.mp h0
  · obtain ⟨j, hj, rfl⟩ := nI_of h0
    right
    rw [nI_toInt hj]
    have : ¬ j < 4 := fun q => h j q rfl
    omega
theorem ms_would {d : Nat} {H : ex_H} {S : SS} (hS : mo_is H S) (f x y t : Int32) : ex_Met mX10_would (d + 6) 0 0 H [.ref 86, .int f, .int x, .int y, .int t] (fun H' r => r = some (.int (f_would S f x y t).1) ∧ ex_ch H H' mL ∧ mo_is H' (f_would S f x y t).2) := by
  obtain ⟨R, mn, C, N, hS⟩ := hS
  obtain ⟨a1, ⟨hfi, hsd, hkp⟩, ⟨W, a2, hw0, ⟨hcn, hwh⟩, hwi⟩, ⟨T, a3, htn, htx⟩, ⟨F, a4, hfl⟩, ⟨IF, IL, IS, a5, a6, a7, him⟩, ⟨BX, BY, BG, a8, a9, a10, hbn, hbk⟩, a11, a12⟩ := id hS
  obtain ⟨⟨⟨hz1, hz2, hz3, hz4⟩, hgm⟩, hW0, hW1, hWd⟩ := id hw0
  have h6 : S.2.2.1.2.1.1 ≤ 6 := hfl.1
  by_cases hx : fin S.2.2.1.2.1.1 f
  · obtain ⟨f, hf, rfl⟩ := id hx
    by_cases hd : pi_in S.2.2.1.1.1 S.2.2.1.1.2.1 x y
    · obtain ⟨i, j, rfl, hi, rfl, hj⟩ := id hd
      have hg := hgm _ (pi_lt hi hj)
      have ef : f_would S (nI f) (nI i) (nI j) t = (f_wouldV S.2.2.1.1 (S.2.2.1.2.1.2 f) S.2.2.1.2.2.1 i j t, S) := by
        unfold f_would
        rw [cif_y ⟨hx, hd⟩, nI_clamp (by omega), nI_clamp (by omega), nI_clamp (by omega)]
      rw [ef]
      unfold f_wouldV
      refine ex_meth [(0, .ref 86), (1, .int (nI f)), (2, .int (nI i)), (3, .int (nI j)), (4, .int t)] rfl rfl rfl (fun b => Nat.le_of_ble_eq_true rfl) ?_
      by_cases q0 : t = nI 0
      · rw [cif_y q0]
        subst q0
        refine ew_aload_n (M := mX10_would) dX10_would_0 rfl (Or.inr (Or.inl ⟨_, rfl⟩)) ?_
        refine ew_iload_n (M := mX10_would) dX10_would_1 rfl ?_
        refine ew_callV (M := mX10_would) dX10_would_2 vX10_186 (by repeat (first | with_reducible assumption | refine ex_eq ?_ | refine ex_ne ?_ (by omega) | exact ex_lt (by with_reducible assumption) | rw [List.length_set] | assumption)) rfl (ms_isFilter_y hS hf) rfl (Nat.le_of_ble_eq_true rfl) ⟨Nat.le_refl _, Nat.le_refl _⟩ rfl (fun H2 r2 q2 => ?_)
        obtain ⟨rfl, rfl⟩ := q2
        refine ew_if_eq (M := mX10_would) (tgt := 17) dX10_would_5 rfl (fun h => absurd h (by decide)) (fun _ => ?_)
        refine ew_aload_n (M := mX10_would) dX10_would_8 rfl (Or.inr (Or.inl ⟨_, rfl⟩)) ?_
        refine ew_iload_n (M := mX10_would) dX10_would_9 rfl ?_
        refine ew_iload_n (M := mX10_would) dX10_would_10 rfl ?_
        refine ew_callV (M := mX10_would) dX10_would_11 vX10_140 (by repeat (first | with_reducible assumption | refine ex_eq ?_ | refine ex_ne ?_ (by omega) | exact ex_lt (by with_reducible assumption) | rw [List.length_set] | assumption)) rfl (ms_isDot_y hS hi hj) rfl (Nat.le_of_ble_eq_true rfl) ⟨Nat.le_refl _, Nat.le_refl _⟩ rfl (fun H11 r11 q11 => ?_)
        obtain ⟨rfl, rfl⟩ := q11
        refine ew_if_ne (M := mX10_would) (tgt := 20) dX10_would_14 rfl (fun _ => ?_) (fun h => absurd h (by decide))
        refine ew_aload_n (M := mX10_would) dX10_would_20 rfl (Or.inr (Or.inl ⟨_, rfl⟩)) ?_
        refine ew_iload_n (M := mX10_would) dX10_would_21 rfl ?_
        refine ew_iload_n (M := mX10_would) dX10_would_22 rfl ?_
        refine ew_iload_n (M := mX10_would) dX10_would_23 rfl ?_
        refine ew_callV (M := mX10_would) dX10_would_24 vX10_157 (by repeat (first | with_reducible assumption | refine ex_eq ?_ | refine ex_ne ?_ (by omega) | exact ex_lt (by with_reducible assumption) | rw [List.length_set] | assumption)) rfl (ms_lastOf hS hf hi hj) rfl (Nat.le_of_ble_eq_true rfl) ⟨Nat.le_refl _, Nat.le_refl _⟩ rfl (fun H24 r24 q24 => ?_)
        obtain ⟨rfl, hc2, n, C2, hS2, hs2, hn2⟩ := q24
        have b1 := hS2.1
        obtain ⟨-, -, -, -, -, -, -, b11, -⟩ := id hS2
        obtain ⟨hs21, hs22⟩ := id hs2
        refine ew_istore (M := mX10_would) dX10_would_27 (by decide) rfl ?_
        refine ew_iload (M := mX10_would) dX10_would_29 rfl ?_
        refine ew_tableIn (M := mX10_would) (tgt := 60) (off := 29) dX10_would_31 (by decide) (by decide) (by decide) rfl ?_
        refine ew_iload (M := mX10_would) dX10_would_60 rfl ?_
        refine ew_iret (M := mX10_would) dX10_would_62 rfl (by first | rfl | decide) (Nat.le_refl _) (Nat.le_refl _) ?_
        exact ⟨by rfl, hc2.sub (mL_sub (by decide)), _, _, _, _, hS2⟩
      · skip
        by_cases q1 : t = nI 1
        · rw [cif_n q0, cif_y q1]
          subst q1
          refine ew_aload_n (M := mX10_would) dX10_would_0 rfl (Or.inr (Or.inl ⟨_, rfl⟩)) ?_
          refine ew_iload_n (M := mX10_would) dX10_would_1 rfl ?_
          refine ew_callV (M := mX10_would) dX10_would_2 vX10_186 (by repeat (first | with_reducible assumption | refine ex_eq ?_ | refine ex_ne ?_ (by omega) | exact ex_lt (by with_reducible assumption) | rw [List.length_set] | assumption)) rfl (ms_isFilter_y hS hf) rfl (Nat.le_of_ble_eq_true rfl) ⟨Nat.le_refl _, Nat.le_refl _⟩ rfl (fun H2 r2 q2 => ?_)
          obtain ⟨rfl, rfl⟩ := q2
          refine ew_if_eq (M := mX10_would) (tgt := 17) dX10_would_5 rfl (fun h => absurd h (by decide)) (fun _ => ?_)
          refine ew_aload_n (M := mX10_would) dX10_would_8 rfl (Or.inr (Or.inl ⟨_, rfl⟩)) ?_
          refine ew_iload_n (M := mX10_would) dX10_would_9 rfl ?_
          refine ew_iload_n (M := mX10_would) dX10_would_10 rfl ?_
          refine ew_callV (M := mX10_would) dX10_would_11 vX10_140 (by repeat (first | with_reducible assumption | refine ex_eq ?_ | refine ex_ne ?_ (by omega) | exact ex_lt (by with_reducible assumption) | rw [List.length_set] | assumption)) rfl (ms_isDot_y hS hi hj) rfl (Nat.le_of_ble_eq_true rfl) ⟨Nat.le_refl _, Nat.le_refl _⟩ rfl (fun H11 r11 q11 => ?_)
          obtain ⟨rfl, rfl⟩ := q11
          refine ew_if_ne (M := mX10_would) (tgt := 20) dX10_would_14 rfl (fun _ => ?_) (fun h => absurd h (by decide))
          refine ew_aload_n (M := mX10_would) dX10_would_20 rfl (Or.inr (Or.inl ⟨_, rfl⟩)) ?_
          refine ew_iload_n (M := mX10_would) dX10_would_21 rfl ?_
          refine ew_iload_n (M := mX10_would) dX10_would_22 rfl ?_
          refine ew_iload_n (M := mX10_would) dX10_would_23 rfl ?_
          refine ew_callV (M := mX10_would) dX10_would_24 vX10_157 (by repeat (first | with_reducible assumption | refine ex_eq ?_ | refine ex_ne ?_ (by omega) | exact ex_lt (by with_reducible assumption) | rw [List.length_set] | assumption)) rfl (ms_lastOf hS hf hi hj) rfl (Nat.le_of_ble_eq_true rfl) ⟨Nat.le_refl _, Nat.le_refl _⟩ rfl (fun H24 r24 q24 => ?_)
          obtain ⟨rfl, hc2, n, C2, hS2, hs2, hn2⟩ := q24
          have b1 := hS2.1
          obtain ⟨-, -, -, -, -, -, -, b11, -⟩ := id hS2
          obtain ⟨hs21, hs22⟩ := id hs2
          refine ew_istore (M := mX10_would) dX10_would_27 (by decide) rfl ?_
          refine ew_iload (M := mX10_would) dX10_would_29 rfl ?_
          refine ew_tableIn (M := mX10_would) (tgt := 63) (off := 32) dX10_would_31 (by decide) (by decide) (by decide) rfl ?_
          refine ew_aload_n (M := mX10_would) dX10_would_63 rfl (Or.inr (Or.inl ⟨_, rfl⟩)) ?_
          refine ew_get (M := mX10_would) dX10_would_64 fX10_121 (by repeat (first | with_reducible assumption | refine ex_eq ?_ | refine ex_ne ?_ (by omega) | exact ex_lt (by with_reducible assumption) | rw [List.length_set] | assumption)) (by rfl) ?_
          refine ew_iret (M := mX10_would) dX10_would_67 rfl (by first | rfl | decide) (Nat.le_refl _) (Nat.le_refl _) ?_
          exact ⟨by rw [hs21], hc2.sub (mL_sub (by decide)), _, _, _, _, hS2⟩
        · skip
          by_cases q2 : t = nI 2
          · rw [cif_n q0, cif_n q1, cif_y q2]
            subst q2
            refine ew_aload_n (M := mX10_would) dX10_would_0 rfl (Or.inr (Or.inl ⟨_, rfl⟩)) ?_
            refine ew_iload_n (M := mX10_would) dX10_would_1 rfl ?_
            refine ew_callV (M := mX10_would) dX10_would_2 vX10_186 (by repeat (first | with_reducible assumption | refine ex_eq ?_ | refine ex_ne ?_ (by omega) | exact ex_lt (by with_reducible assumption) | rw [List.length_set] | assumption)) rfl (ms_isFilter_y hS hf) rfl (Nat.le_of_ble_eq_true rfl) ⟨Nat.le_refl _, Nat.le_refl _⟩ rfl (fun H2 r2 q2 => ?_)
            obtain ⟨rfl, rfl⟩ := q2
            refine ew_if_eq (M := mX10_would) (tgt := 17) dX10_would_5 rfl (fun h => absurd h (by decide)) (fun _ => ?_)
            refine ew_aload_n (M := mX10_would) dX10_would_8 rfl (Or.inr (Or.inl ⟨_, rfl⟩)) ?_
            refine ew_iload_n (M := mX10_would) dX10_would_9 rfl ?_
            refine ew_iload_n (M := mX10_would) dX10_would_10 rfl ?_
            refine ew_callV (M := mX10_would) dX10_would_11 vX10_140 (by repeat (first | with_reducible assumption | refine ex_eq ?_ | refine ex_ne ?_ (by omega) | exact ex_lt (by with_reducible assumption) | rw [List.length_set] | assumption)) rfl (ms_isDot_y hS hi hj) rfl (Nat.le_of_ble_eq_true rfl) ⟨Nat.le_refl _, Nat.le_refl _⟩ rfl (fun H11 r11 q11 => ?_)
            obtain ⟨rfl, rfl⟩ := q11
            refine ew_if_ne (M := mX10_would) (tgt := 20) dX10_would_14 rfl (fun _ => ?_) (fun h => absurd h (by decide))
            refine ew_aload_n (M := mX10_would) dX10_would_20 rfl (Or.inr (Or.inl ⟨_, rfl⟩)) ?_
            refine ew_iload_n (M := mX10_would) dX10_would_21 rfl ?_
            refine ew_iload_n (M := mX10_would) dX10_would_22 rfl ?_
            refine ew_iload_n (M := mX10_would) dX10_would_23 rfl ?_
            refine ew_callV (M := mX10_would) dX10_would_24 vX10_157 (by repeat (first | with_reducible assumption | refine ex_eq ?_ | refine ex_ne ?_ (by omega) | exact ex_lt (by with_reducible assumption) | rw [List.length_set] | assumption)) rfl (ms_lastOf hS hf hi hj) rfl (Nat.le_of_ble_eq_true rfl) ⟨Nat.le_refl _, Nat.le_refl _⟩ rfl (fun H24 r24 q24 => ?_)
            obtain ⟨rfl, hc2, n, C2, hS2, hs2, hn2⟩ := q24
            have b1 := hS2.1
            obtain ⟨-, -, -, -, -, -, -, b11, -⟩ := id hS2
            obtain ⟨hs21, hs22⟩ := id hs2
            refine ew_istore (M := mX10_would) dX10_would_27 (by decide) rfl ?_
            refine ew_iload (M := mX10_would) dX10_would_29 rfl ?_
            refine ew_tableIn (M := mX10_would) (tgt := 68) (off := 37) dX10_would_31 (by decide) (by decide) (by decide) rfl ?_
            refine ew_aload_n (M := mX10_would) dX10_would_68 rfl (Or.inr (Or.inl ⟨_, rfl⟩)) ?_
            refine ew_aload_n (M := mX10_would) dX10_would_69 rfl (Or.inr (Or.inl ⟨_, rfl⟩)) ?_
            refine ew_iload_n (M := mX10_would) dX10_would_70 rfl ?_
            refine ew_iload_n (M := mX10_would) dX10_would_71 rfl ?_
            refine ew_callV (M := mX10_would) dX10_would_72 vX10_137 (by repeat (first | with_reducible assumption | refine ex_eq ?_ | refine ex_ne ?_ (by omega) | exact ex_lt (by with_reducible assumption) | rw [List.length_set] | assumption)) rfl (ms_grey hS2 hi hj) rfl (Nat.le_of_ble_eq_true rfl) ⟨Nat.le_refl _, Nat.le_refl _⟩ rfl (fun H72 r72 q72 => ?_)
            obtain ⟨rfl, rfl⟩ := q72
            refine ew_callV (M := mX10_would) dX10_would_75 vX10_190 (by repeat (first | with_reducible assumption | refine ex_eq ?_ | refine ex_ne ?_ (by omega) | exact ex_lt (by with_reducible assumption) | rw [List.length_set] | assumption)) rfl (ms_below hS2 hs2 hn2 hg.1) rfl (Nat.le_of_ble_eq_true rfl) ⟨Nat.le_refl _, Nat.le_refl _⟩ rfl (fun H75 r75 q75 => ?_)
            obtain ⟨rfl, rfl⟩ := q75
            refine ew_iret (M := mX10_would) dX10_would_78 rfl (by first | rfl | decide) (Nat.le_refl _) (Nat.le_refl _) ?_
            exact ⟨by rfl, hc2.sub (mL_sub (by decide)), _, _, _, _, hS2⟩
          · skip
            by_cases q3 : t = nI 3
            · rw [cif_n q0, cif_n q1, cif_n q2, cif_y q3]
              subst q3
              refine ew_aload_n (M := mX10_would) dX10_would_0 rfl (Or.inr (Or.inl ⟨_, rfl⟩)) ?_
              refine ew_iload_n (M := mX10_would) dX10_would_1 rfl ?_
              refine ew_callV (M := mX10_would) dX10_would_2 vX10_186 (by repeat (first | with_reducible assumption | refine ex_eq ?_ | refine ex_ne ?_ (by omega) | exact ex_lt (by with_reducible assumption) | rw [List.length_set] | assumption)) rfl (ms_isFilter_y hS hf) rfl (Nat.le_of_ble_eq_true rfl) ⟨Nat.le_refl _, Nat.le_refl _⟩ rfl (fun H2 r2 q2 => ?_)
              obtain ⟨rfl, rfl⟩ := q2
              refine ew_if_eq (M := mX10_would) (tgt := 17) dX10_would_5 rfl (fun h => absurd h (by decide)) (fun _ => ?_)
              refine ew_aload_n (M := mX10_would) dX10_would_8 rfl (Or.inr (Or.inl ⟨_, rfl⟩)) ?_
              refine ew_iload_n (M := mX10_would) dX10_would_9 rfl ?_
              refine ew_iload_n (M := mX10_would) dX10_would_10 rfl ?_
              refine ew_callV (M := mX10_would) dX10_would_11 vX10_140 (by repeat (first | with_reducible assumption | refine ex_eq ?_ | refine ex_ne ?_ (by omega) | exact ex_lt (by with_reducible assumption) | rw [List.length_set] | assumption)) rfl (ms_isDot_y hS hi hj) rfl (Nat.le_of_ble_eq_true rfl) ⟨Nat.le_refl _, Nat.le_refl _⟩ rfl (fun H11 r11 q11 => ?_)
              obtain ⟨rfl, rfl⟩ := q11
              refine ew_if_ne (M := mX10_would) (tgt := 20) dX10_would_14 rfl (fun _ => ?_) (fun h => absurd h (by decide))
              refine ew_aload_n (M := mX10_would) dX10_would_20 rfl (Or.inr (Or.inl ⟨_, rfl⟩)) ?_
              refine ew_iload_n (M := mX10_would) dX10_would_21 rfl ?_
              refine ew_iload_n (M := mX10_would) dX10_would_22 rfl ?_
              refine ew_iload_n (M := mX10_would) dX10_would_23 rfl ?_
              refine ew_callV (M := mX10_would) dX10_would_24 vX10_157 (by repeat (first | with_reducible assumption | refine ex_eq ?_ | refine ex_ne ?_ (by omega) | exact ex_lt (by with_reducible assumption) | rw [List.length_set] | assumption)) rfl (ms_lastOf hS hf hi hj) rfl (Nat.le_of_ble_eq_true rfl) ⟨Nat.le_refl _, Nat.le_refl _⟩ rfl (fun H24 r24 q24 => ?_)
              obtain ⟨rfl, hc2, n, C2, hS2, hs2, hn2⟩ := q24
              have b1 := hS2.1
              obtain ⟨-, -, -, -, -, -, -, b11, -⟩ := id hS2
              obtain ⟨hs21, hs22⟩ := id hs2
              refine ew_istore (M := mX10_would) dX10_would_27 (by decide) rfl ?_
              refine ew_iload (M := mX10_would) dX10_would_29 rfl ?_
              refine ew_tableIn (M := mX10_would) (tgt := 79) (off := 48) dX10_would_31 (by decide) (by decide) (by decide) rfl ?_
              refine ew_aload_n (M := mX10_would) dX10_would_79 rfl (Or.inr (Or.inl ⟨_, rfl⟩)) ?_
              refine ew_get (M := mX10_would) dX10_would_80 fX10_121 (by repeat (first | with_reducible assumption | refine ex_eq ?_ | refine ex_ne ?_ (by omega) | exact ex_lt (by with_reducible assumption) | rw [List.length_set] | assumption)) (by rfl) ?_
              refine ew_if_ne (M := mX10_would) (tgt := 90) dX10_would_83 rfl (fun c83 => ?_) (fun c83 => ?_)
              · rw [nI_z (by omega)] at c83
                rw [cif_n (by rw [hs21]; omega)]
                refine ew_aload_n (M := mX10_would) dX10_would_90 rfl (Or.inr (Or.inl ⟨_, rfl⟩)) ?_
                refine ew_get (M := mX10_would) dX10_would_91 fX10_41 (by repeat (first | with_reducible assumption | refine ex_eq ?_ | refine ex_ne ?_ (by omega) | exact ex_lt (by with_reducible assumption) | rw [List.length_set] | assumption)) (by rfl) ?_
                refine ew_aload_n (M := mX10_would) dX10_would_94 rfl (Or.inr (Or.inl ⟨_, rfl⟩)) ?_
                refine ew_get (M := mX10_would) dX10_would_95 fX10_121 (by repeat (first | with_reducible assumption | refine ex_eq ?_ | refine ex_ne ?_ (by omega) | exact ex_lt (by with_reducible assumption) | rw [List.length_set] | assumption)) (by rfl) ?_
                refine ew_iconst (M := mX10_would) dX10_would_98 (v := nI 1) (by decide) ?_
                refine ew_isub (M := mX10_would) dX10_would_99 ?_
                rw [nI_s1 (by omega)]
                refine ew_iald (M := mX10_would) (n - 1) dX10_would_100 (by repeat (first | with_reducible assumption | refine ex_eq ?_ | refine ex_ne ?_ (by omega) | exact ex_lt (by with_reducible assumption) | rw [List.length_set] | assumption)) ⟨rfl, by omega, by decide⟩ ?_
                refine ew_aload_n (M := mX10_would) dX10_would_101 rfl (Or.inr (Or.inl ⟨_, rfl⟩)) ?_
                refine ew_get (M := mX10_would) dX10_would_102 fX10_41 (by repeat (first | with_reducible assumption | refine ex_eq ?_ | refine ex_ne ?_ (by omega) | exact ex_lt (by with_reducible assumption) | rw [List.length_set] | assumption)) (by rfl) ?_
                refine ew_iconst (M := mX10_would) dX10_would_105 (v := nI 0) (by decide) ?_
                refine ew_iald (M := mX10_would) 0 dX10_would_106 (by repeat (first | with_reducible assumption | refine ex_eq ?_ | refine ex_ne ?_ (by omega) | exact ex_lt (by with_reducible assumption) | rw [List.length_set] | assumption)) ⟨rfl, by decide, by decide⟩ ?_
                refine ew_isub (M := mX10_would) dX10_would_107 ?_
                refine ew_iret (M := mX10_would) dX10_would_108 rfl (by first | rfl | decide) (Nat.le_refl _) (Nat.le_refl _) ?_
                first | exact ⟨by rw [hs22 _ (by omega), hs22 _ (by omega), hs21], hc2.sub (mL_sub (by decide)), _, _, _, _, hS2⟩ | exact ⟨rfl, hc2.sub (mL_sub (by decide)), _, _, _, _, hS2⟩
              · rw [nI_z (by omega)] at c83
                rw [cif_y (by rw [hs21]; omega)]
                refine ew_iconst (M := mX10_would) dX10_would_86 (v := (-1)) (by decide) ?_
                refine ew_goto (M := mX10_would) (tgt := 108) dX10_would_87 rfl ?_
                refine ew_iret (M := mX10_would) dX10_would_108 rfl (by first | rfl | decide) (Nat.le_refl _) (Nat.le_refl _) ?_
                first | exact ⟨by rw [hs22 _ (by omega), hs22 _ (by omega), hs21], hc2.sub (mL_sub (by decide)), _, _, _, _, hS2⟩ | exact ⟨rfl, hc2.sub (mL_sub (by decide)), _, _, _, _, hS2⟩
            · rw [cif_n q0, cif_n q1, cif_n q2, cif_n q3]
              have hout : t.toInt < 0 ∨ 3 < t.toInt := wo_out (fun k hk e => by
                rcases (show k = 0 ∨ k = 1 ∨ k = 2 ∨ k = 3 by omega) with rfl | rfl | rfl | rfl <;> contradiction)
              refine ew_aload_n (M := mX10_would) dX10_would_0 rfl (Or.inr (Or.inl ⟨_, rfl⟩)) ?_
              refine ew_iload_n (M := mX10_would) dX10_would_1 rfl ?_
              refine ew_callV (M := mX10_would) dX10_would_2 vX10_186 (by repeat (first | with_reducible assumption | refine ex_eq ?_ | refine ex_ne ?_ (by omega) | exact ex_lt (by with_reducible assumption) | rw [List.length_set] | assumption)) rfl (ms_isFilter_y hS hf) rfl (Nat.le_of_ble_eq_true rfl) ⟨Nat.le_refl _, Nat.le_refl _⟩ rfl (fun H2 r2 q2 => ?_)
              obtain ⟨rfl, rfl⟩ := q2
              refine ew_if_eq (M := mX10_would) (tgt := 17) dX10_would_5 rfl (fun h => absurd h (by decide)) (fun _ => ?_)
              refine ew_aload_n (M := mX10_would) dX10_would_8 rfl (Or.inr (Or.inl ⟨_, rfl⟩)) ?_
              refine ew_iload_n (M := mX10_would) dX10_would_9 rfl ?_
              refine ew_iload_n (M := mX10_would) dX10_would_10 rfl ?_
              refine ew_callV (M := mX10_would) dX10_would_11 vX10_140 (by repeat (first | with_reducible assumption | refine ex_eq ?_ | refine ex_ne ?_ (by omega) | exact ex_lt (by with_reducible assumption) | rw [List.length_set] | assumption)) rfl (ms_isDot_y hS hi hj) rfl (Nat.le_of_ble_eq_true rfl) ⟨Nat.le_refl _, Nat.le_refl _⟩ rfl (fun H11 r11 q11 => ?_)
              obtain ⟨rfl, rfl⟩ := q11
              refine ew_if_ne (M := mX10_would) (tgt := 20) dX10_would_14 rfl (fun _ => ?_) (fun h => absurd h (by decide))
              refine ew_aload_n (M := mX10_would) dX10_would_20 rfl (Or.inr (Or.inl ⟨_, rfl⟩)) ?_
              refine ew_iload_n (M := mX10_would) dX10_would_21 rfl ?_
              refine ew_iload_n (M := mX10_would) dX10_would_22 rfl ?_
              refine ew_iload_n (M := mX10_would) dX10_would_23 rfl ?_
              refine ew_callV (M := mX10_would) dX10_would_24 vX10_157 (by repeat (first | with_reducible assumption | refine ex_eq ?_ | refine ex_ne ?_ (by omega) | exact ex_lt (by with_reducible assumption) | rw [List.length_set] | assumption)) rfl (ms_lastOf hS hf hi hj) rfl (Nat.le_of_ble_eq_true rfl) ⟨Nat.le_refl _, Nat.le_refl _⟩ rfl (fun H24 r24 q24 => ?_)
              obtain ⟨rfl, hc2, n, C2, hS2, hs2, hn2⟩ := q24
              have b1 := hS2.1
              obtain ⟨-, -, -, -, -, -, -, b11, -⟩ := id hS2
              obtain ⟨hs21, hs22⟩ := id hs2
              refine ew_istore (M := mX10_would) dX10_would_27 (by decide) rfl ?_
              refine ew_iload (M := mX10_would) dX10_would_29 rfl ?_
              refine ew_tableOut (M := mX10_would) (tgt := 109) dX10_would_31 hout rfl ?_
              refine ew_ldc (M := mX10_would) dX10_would_109 kX10_110 ?_
              refine ew_iret (M := mX10_would) dX10_would_111 rfl (by first | rfl | decide) (Nat.le_refl _) (Nat.le_refl _) ?_
              exact ⟨rfl, hc2.sub (mL_sub (by decide)), _, _, _, _, hS2⟩
    · have ef : f_would S (nI f) x y t = (-1000000001, S) := by
        unfold f_would
        rw [cif_n (fun q => hd q.2)]
      refine ex_meth [(0, .ref 86), (1, .int (nI f)), (2, .int x), (3, .int y), (4, .int t)] rfl rfl rfl (fun b => Nat.le_of_ble_eq_true rfl) ?_
      refine ew_aload_n (M := mX10_would) dX10_would_0 rfl (Or.inr (Or.inl ⟨_, rfl⟩)) ?_
      refine ew_iload_n (M := mX10_would) dX10_would_1 rfl ?_
      refine ew_callV (M := mX10_would) dX10_would_2 vX10_186 (by repeat (first | with_reducible assumption | refine ex_eq ?_ | refine ex_ne ?_ (by omega) | exact ex_lt (by with_reducible assumption) | rw [List.length_set] | assumption)) rfl (ms_isFilter_y hS hf) rfl (Nat.le_of_ble_eq_true rfl) ⟨Nat.le_refl _, Nat.le_refl _⟩ rfl (fun H2 r2 q2 => ?_)
      obtain ⟨rfl, rfl⟩ := q2
      refine ew_if_eq (M := mX10_would) (tgt := 17) dX10_would_5 rfl (fun h => absurd h (by decide)) (fun _ => ?_)
      refine ew_aload_n (M := mX10_would) dX10_would_8 rfl (Or.inr (Or.inl ⟨_, rfl⟩)) ?_
      refine ew_iload_n (M := mX10_would) dX10_would_9 rfl ?_
      refine ew_iload_n (M := mX10_would) dX10_would_10 rfl ?_
      refine ew_callV (M := mX10_would) dX10_would_11 vX10_140 (by repeat (first | with_reducible assumption | refine ex_eq ?_ | refine ex_ne ?_ (by omega) | exact ex_lt (by with_reducible assumption) | rw [List.length_set] | assumption)) rfl (ms_isDot_n hS hd) rfl (Nat.le_of_ble_eq_true rfl) ⟨Nat.le_refl _, Nat.le_refl _⟩ rfl (fun H11 r11 q11 => ?_)
      obtain ⟨rfl, rfl⟩ := q11
      refine ew_if_ne (M := mX10_would) (tgt := 20) dX10_would_14 rfl (fun h => absurd (by decide) h) (fun _ => ?_)
      refine ew_ldc (M := mX10_would) dX10_would_17 kX10_175 ?_
      refine ew_iret (M := mX10_would) dX10_would_19 rfl (by first | rfl | decide) (Nat.le_refl _) (Nat.le_refl _) ?_
      exact ⟨by rw [ef], ex_ch.rf, by rw [ef]; exact ⟨_, _, _, _, hS⟩⟩
  · have ef : f_would S f x y t = (-1000000001, S) := by
      unfold f_would
      rw [cif_n (fun q => hx q.1)]
    refine ex_meth [(0, .ref 86), (1, .int f), (2, .int x), (3, .int y), (4, .int t)] rfl rfl rfl (fun b => Nat.le_of_ble_eq_true rfl) ?_
    refine ew_aload_n (M := mX10_would) dX10_would_0 rfl (Or.inr (Or.inl ⟨_, rfl⟩)) ?_
    refine ew_iload_n (M := mX10_would) dX10_would_1 rfl ?_
    refine ew_callV (M := mX10_would) dX10_would_2 vX10_186 (by repeat (first | with_reducible assumption | refine ex_eq ?_ | refine ex_ne ?_ (by omega) | exact ex_lt (by with_reducible assumption) | rw [List.length_set] | assumption)) rfl (ms_isFilter_n hS hx) rfl (Nat.le_of_ble_eq_true rfl) ⟨Nat.le_refl _, Nat.le_refl _⟩ rfl (fun H2 r2 q2 => ?_)
    obtain ⟨rfl, rfl⟩ := q2
    refine ew_if_eq (M := mX10_would) (tgt := 17) dX10_would_5 rfl (fun _ => ?_) (fun h => absurd (by decide) h)
    refine ew_ldc (M := mX10_would) dX10_would_17 kX10_175 ?_
    refine ew_iret (M := mX10_would) dX10_would_19 rfl (by first | rfl | decide) (Nat.le_refl _) (Nat.le_refl _) ?_
    exact ⟨by rw [ef], ex_ch.rf, by rw [ef]; exact ⟨_, _, _, _, hS⟩⟩
