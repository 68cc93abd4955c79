/-- the model's object -/
abbrev mob (kn kp sd sz fa fi wr ro ir wi ha mn : Int32) : ex_C := ob 10 [.ref 87, .int kn, .int kp, .int sd, .ref 88, .int sz, .int fa, .ref 89, .int fi, .ref 90, .ref 91, .ref 92, .ref 93, .ref 94, .ref 95, .int wr, .int ro, .int ir, .int wi, .int ha, .ref 96, .int mn, .ref 97]
abbrev mL : List Nat := [86, 87, 88, 89, 90, 91, 92, 93, 94, 95, 96, 97]
/-- a picture in the model's row that begins at o -/
def mw (W : Nat → Int32) (o : Nat) (P : PT) : Prop := pi_ok P.1 P.2.1 P.2.2.1 P.2.2.2 ∧ W o = nI P.1 ∧ W (o + 1) = nI P.2.1 ∧ ∀ i j, i < P.1 → j < P.2.1 → W (o + (2 + 10 * j + i)) = nI (P.2.2.1 (j * P.1 + i) + 256 * P.2.2.2 (j * P.1 + i))
def fvo (v : FV) : Prop := v.1 ≤ 4 ∧ v.2.1 ≤ 4 ∧ v.2.2.1 ≤ 100 ∧ v.2.2.2.1 ≤ 4 ∧ 1 ≤ v.2.2.2.2 ∧ v.2.2.2.2 ≤ 9
def mf1 (F : Nat → Int32) (o : Nat) (v : FV) : Prop := F o = nI v.1 ∧ F (o + 1) = nI v.2.1 ∧ F (o + 2) = nI v.2.2.1 ∧ F (o + 3) = nI v.2.2.2.1 ∧ F (o + 4) = nI v.2.2.2.2
def mfl (F : Nat → Int32) (o : Nat) (z : Nat × (Nat → FV)) : Prop := z.1 ≤ 6 ∧ F o = nI z.1 ∧ ∀ k, k < z.1 → mf1 F (o + (1 + 5 * k)) (z.2 k) ∧ fvo (z.2 k)
def mww (W : Nat → Int32) (P : PT) (cnt : Nat) (hs : Nat → PT) (kp : Nat → Nat) (im : Nat → ST) : Prop := mw W 0 P ∧ (cnt ≤ 16 ∧ ∀ k, k < cnt → mw W (82 * (k + 1)) (hs (cnt - 1 - k))) ∧ ∀ i, i < 2 → kp i = 1 → mw W (1394 + 82 * i) (im i).1
/-- the model's cells -/
def mo_at (H : ex_H) (S : SS) (R : Int32 × Int32 × Int32 × Int32) (mn : Int32) (C N : Nat → Int32) : Prop :=
  H[86]? = some (mob (nI S.2.2.2.2.2.1.1) (nI (S.2.2.2.1 0 + 2 * S.2.2.2.1 1)) (nI S.2.2.1.2.2.2) (nI S.1.1) S.2.1 (nI S.2.2.1.2.2.1) (nI S.2.2.2.2.2.2.1) R.1 R.2.1 R.2.2.1 R.2.2.2 mn) ∧
  (S.2.2.1.2.2.1 < 256 ∧ S.2.2.1.2.2.2 < 2 ^ 31 ∧ ∀ i, i < 2 → S.2.2.2.1 i < 2) ∧
  (∃ W, H[87]? = some (ar .int 1558 W) ∧ mww W S.2.2.1.1 S.2.2.2.2.2.1.1 S.2.2.2.2.2.1.2 S.2.2.2.1 S.2.2.2.2.1) ∧
  (∃ T, H[88]? = some (ar .int 180 T) ∧ S.1.1 ≤ 180 ∧ ∀ k, k < S.1.1 → T k = nI (S.1.2 k) ∧ S.1.2 k < 256) ∧
  (∃ F, H[89]? = some (ar .int 31 F) ∧ mfl F 0 S.2.2.1.2.1) ∧
  (∃ IF IL IS, H[90]? = some (ar .int 62 IF) ∧ H[91]? = some (ar .int 2 IL) ∧ H[92]? = some (ar .int 2 IS) ∧ ∀ i, i < 2 → S.2.2.2.1 i = 1 → mfl IF (31 * i) (S.2.2.2.2.1 i).2.1 ∧ IL i = nI (S.2.2.2.2.1 i).2.2.1 ∧ (S.2.2.2.2.1 i).2.2.1 < 256 ∧ IS i = nI (S.2.2.2.2.1 i).2.2.2 ∧ (S.2.2.2.2.1 i).2.2.2 < 2 ^ 31) ∧
  (∃ X Y G, H[93]? = some (ar .int 20 X) ∧ H[94]? = some (ar .int 20 Y) ∧ H[95]? = some (ar .int 20 G) ∧ S.2.2.2.2.2.2.1 ≤ 20 ∧ ∀ k, k < S.2.2.2.2.2.2.1 → X k = nI (S.2.2.2.2.2.2.2 k).1 ∧ Y k = nI (S.2.2.2.2.2.2.2 k).2.1 ∧ G k = (S.2.2.2.2.2.2.2 k).2.2 ∧ (S.2.2.2.2.2.2.2 k).1 < 10 ∧ (S.2.2.2.2.2.2.2 k).2.1 < 8) ∧
  H[96]? = some (ar .int 96 C) ∧ H[97]? = some (ar .int 82 N)
def mo_is (H : ex_H) (S : SS) : Prop := ∃ R mn C N, mo_at H S R mn C N
theorem mo_is.ch {H H' : ex_H} {S : SS} {L : List Nat} (hS : mo_is H S) (hc : ex_ch H H' L) (hL : ∀ k ∈ L, k < 86 ∨ 98 ≤ k) : mo_is H' S := by
  obtain ⟨R, mn, C, N, hS⟩ := hS
  have hx : ∀ k, 86 ≤ k → k < 98 → k ∉ L := fun k h1 h2 h3 => by
    have := hL k h3
    omega
  obtain ⟨a1, ⟨hfi, hsd, hkp⟩, ⟨W, a2, hw0, ⟨hcn, hwh⟩, hwi⟩, ⟨T, a3, htn, htx⟩, ⟨F, a4, hfl⟩, ⟨IF, IL, IS, a5, a6, a7, him⟩, ⟨BX, BY, BG, a8, a9, a10, hbn, hbk⟩, a11, a12⟩ := id hS
  exact ⟨R, mn, C, N, hc.at a1 (hx _ (by decide) (by decide)), ⟨hfi, hsd, hkp⟩, ⟨W, hc.at a2 (hx _ (by decide) (by decide)), hw0, ⟨hcn, hwh⟩, hwi⟩, ⟨T, hc.at a3 (hx _ (by decide) (by decide)), htn, htx⟩, ⟨F, hc.at a4 (hx _ (by decide) (by decide)), hfl⟩, ⟨IF, IL, IS, hc.at a5 (hx _ (by decide) (by decide)), hc.at a6 (hx _ (by decide) (by decide)), hc.at a7 (hx _ (by decide) (by decide)), him⟩, ⟨BX, BY, BG, hc.at a8 (hx _ (by decide) (by decide)), hc.at a9 (hx _ (by decide) (by decide)), hc.at a10 (hx _ (by decide) (by decide)), hbn, hbk⟩, hc.at a11 (hx _ (by decide) (by decide)), hc.at a12 (hx _ (by decide) (by decide))⟩
theorem i64_le {x y : Int32} : x.toInt64 ≤ y.toInt64 ↔ x ≤ y := by
  rw [Int64.le_iff_toInt_le, Int32.toInt_toInt64, Int32.toInt_toInt64, Int32.le_iff_toInt_le]
theorem nI_s1 {n : Nat} (h : 1 ≤ n) : nI n - nI 1 = nI (n - 1) := by
  obtain ⟨k, rfl⟩ : ∃ k, n = k + 1 := ⟨n - 1, by omega⟩
  exact nI_pred k
theorem ms_in_y {d : Nat} {H : ex_H} {x l g : Int32} {L G : Int64} (hL : L = l.toInt64) (hG : G = g.toInt64) (h1 : l ≤ x) (h2 : x ≤ g) : ex_Met mX10_in d 0 0 H [.long x.toInt64, .long L, .long G] (ex_r H (.int (nI 1))) := by
  subst hL hG
  refine ex_meth [(0, .long x.toInt64), (2, .long l.toInt64), (4, .long g.toInt64)] rfl rfl rfl (fun b => Nat.le_of_ble_eq_true rfl) ?_
  refine ew_lload_n (M := mX10_in) dX10_in_0 rfl ?_
  refine ew_lload_n (M := mX10_in) dX10_in_1 rfl ?_
  refine ew_lcmp (M := mX10_in) dX10_in_2 ?_
  refine ew_if_lt (M := mX10_in) (tgt := 17) dX10_in_3 rfl (fun h => absurd h (by rw [lg_cmp_lt, Int64.not_lt]; exact i64_le.mpr h1)) (fun _ => ?_)
  refine ew_lload_n (M := mX10_in) dX10_in_6 rfl ?_
  refine ew_lload (M := mX10_in) dX10_in_7 rfl ?_
  refine ew_lcmp (M := mX10_in) dX10_in_9 ?_
  refine ew_if_gt (M := mX10_in) (tgt := 17) dX10_in_10 rfl (fun h => absurd h (by rw [lg_cmp_gt, Int64.not_lt]; exact i64_le.mpr h2)) (fun _ => ?_)
  refine ew_iconst (M := mX10_in) dX10_in_13 (v := nI 1) (by decide) ?_
  refine ew_goto (M := mX10_in) (tgt := 18) dX10_in_14 rfl ?_
  refine ew_iret (M := mX10_in) dX10_in_18 rfl (by first | rfl | decide) (Nat.le_refl _) (Nat.le_refl _) ?_
  exact ⟨rfl, rfl⟩
theorem ms_in_n {d : Nat} {H : ex_H} {x l g : Int32} {L G : Int64} (hL : L = l.toInt64) (hG : G = g.toInt64) (h : ¬ (l ≤ x ∧ x ≤ g)) : ex_Met mX10_in d 0 0 H [.long x.toInt64, .long L, .long G] (ex_r H (.int (nI 0))) := by
  subst hL hG
  refine ex_meth [(0, .long x.toInt64), (2, .long l.toInt64), (4, .long g.toInt64)] rfl rfl rfl (fun b => Nat.le_of_ble_eq_true rfl) ?_
  refine ew_lload_n (M := mX10_in) dX10_in_0 rfl ?_
  refine ew_lload_n (M := mX10_in) dX10_in_1 rfl ?_
  refine ew_lcmp (M := mX10_in) dX10_in_2 ?_
  refine ew_if_lt (M := mX10_in) (tgt := 17) dX10_in_3 rfl (fun c3 => ?_) (fun c3 => ?_)
  · refine ew_iconst (M := mX10_in) dX10_in_17 (v := nI 0) (by decide) ?_
    refine ew_iret (M := mX10_in) dX10_in_18 rfl (by first | rfl | decide) (Nat.le_refl _) (Nat.le_refl _) ?_
    exact ⟨rfl, rfl⟩
  · refine ew_lload_n (M := mX10_in) dX10_in_6 rfl ?_
    refine ew_lload (M := mX10_in) dX10_in_7 rfl ?_
    refine ew_lcmp (M := mX10_in) dX10_in_9 ?_
    refine ew_if_gt (M := mX10_in) (tgt := 17) dX10_in_10 rfl (fun c10 => ?_) (fun c10 => ?_)
    · refine ew_iconst (M := mX10_in) dX10_in_17 (v := nI 0) (by decide) ?_
      refine ew_iret (M := mX10_in) dX10_in_18 rfl (by first | rfl | decide) (Nat.le_refl _) (Nat.le_refl _) ?_
      exact ⟨rfl, rfl⟩
    · rw [lg_cmp_lt, Int64.not_lt, i64_le] at c3
      rw [lg_cmp_gt, Int64.not_lt, i64_le] at c10
      exact absurd ⟨c3, c10⟩ h
theorem ms_place {d : Nat} {H : ex_H} {a i j : Nat} : ex_Met mX10_place d 0 0 H [.ref a, .int (nI i), .int (nI j)] (ex_r H (.int (nI (2 + 10 * j + i)))) := by
  refine ex_meth [(0, .ref a), (1, .int (nI i)), (2, .int (nI j))] rfl rfl rfl (fun b => Nat.le_of_ble_eq_true rfl) ?_
  refine ew_iconst (M := mX10_place) dX10_place_0 (v := nI 2) (by decide) ?_
  refine ew_bipush (M := mX10_place) dX10_place_1 (v := nI 10) (by decide) ?_
  refine ew_iload_n (M := mX10_place) dX10_place_3 rfl ?_
  refine ew_imul (M := mX10_place) dX10_place_4 ?_
  refine ew_iadd (M := mX10_place) dX10_place_5 ?_
  refine ew_iload_n (M := mX10_place) dX10_place_6 rfl ?_
  refine ew_iadd (M := mX10_place) dX10_place_7 ?_
  refine ew_iret (M := mX10_place) dX10_place_8 rfl (by first | rfl | decide) (Nat.le_refl _) (Nat.le_refl _) ?_
  exact ⟨rfl, by rw [pk_mul, nI_add, nI_add]⟩
theorem pl_80 {w h i j : Nat} (hw : w ≤ 10) (hh : h ≤ 8) (hi : i < w) (hj : j < h) : 2 + 10 * j + i < 82 := by omega
theorem ms_grey {d : Nat} {H : ex_H} {S : SS} {R : Int32 × Int32 × Int32 × Int32} {mn : Int32} {C N : Nat → Int32} (hS : mo_at H S R mn C N) {i j : Nat} (hi : i < S.2.2.1.1.1) (hj : j < S.2.2.1.1.2.1) : ex_Met mX10_grey (d + 1) 0 0 H [.ref 86, .int (nI i), .int (nI j)] (ex_r H (.int (nI (S.2.2.1.1.2.2.1 (j * S.2.2.1.1.1 + i))))) := by
  obtain ⟨a1, ⟨hfi, hsd, hkp⟩, ⟨W, a2, hw0, ⟨hcn, hwh⟩, hwi⟩, ⟨T, a3, htn, htx⟩, ⟨F, a4, hfl⟩, ⟨IF, IL, IS, a5, a6, a7, him⟩, ⟨BX, BY, BG, a8, a9, a10, hbn, hbk⟩, a11, a12⟩ := id hS
  obtain ⟨⟨⟨hz1, hz2, hz3, hz4⟩, hgm⟩, hW0, hW1, hWd⟩ := id hw0
  have h82 := pl_80 hz2 hz4 hi hj
  have hd := hWd i j hi hj
  have hg := hgm _ (pi_lt hi hj)
  rw [Nat.zero_add] at hd
  refine ex_meth [(0, .ref 86), (1, .int (nI i)), (2, .int (nI j))] rfl rfl rfl (fun b => Nat.le_of_ble_eq_true rfl) ?_
  refine ew_aload_n (M := mX10_grey) dX10_grey_0 rfl (Or.inr (Or.inl ⟨_, rfl⟩)) ?_
  refine ew_get (M := mX10_grey) dX10_grey_1 fX10_7 (by repeat (first | with_reducible assumption | refine ex_eq ?_ | refine ex_ne ?_ (by omega) | exact ex_lt (by with_reducible assumption) | rw [List.length_set] | assumption)) (by rfl) ?_
  refine ew_aload_n (M := mX10_grey) dX10_grey_4 rfl (Or.inr (Or.inl ⟨_, rfl⟩)) ?_
  refine ew_iload_n (M := mX10_grey) dX10_grey_5 rfl ?_
  refine ew_iload_n (M := mX10_grey) dX10_grey_6 rfl ?_
  refine ew_callV (M := mX10_grey) dX10_grey_7 vX10_54 (by repeat (first | with_reducible assumption | refine ex_eq ?_ | refine ex_ne ?_ (by omega) | exact ex_lt (by with_reducible assumption) | rw [List.length_set] | assumption)) rfl (ms_place) rfl (Nat.le_of_ble_eq_true rfl) ⟨Nat.le_refl _, Nat.le_refl _⟩ rfl (fun H7 r7 q7 => ?_)
  obtain ⟨rfl, rfl⟩ := q7
  refine ew_iald (M := mX10_grey) (2 + 10 * j + i) dX10_grey_10 (by repeat (first | with_reducible assumption | refine ex_eq ?_ | refine ex_ne ?_ (by omega) | exact ex_lt (by with_reducible assumption) | rw [List.length_set] | assumption)) ⟨rfl, by omega, by decide⟩ ?_
  refine ew_sipush (M := mX10_grey) dX10_grey_11 (v := nI 256) (by decide) ?_
  refine ew_irem (M := mX10_grey) dX10_grey_14 (by decide) ?_
  refine ew_iret (M := mX10_grey) dX10_grey_15 rfl (by first | rfl | decide) (Nat.le_refl _) (Nat.le_refl _) ?_
  exact ⟨rfl, by rw [hd, pk_rem (by omega) (by decide) (by decide)]; congr 3; omega⟩
theorem ms_isMasked {d : Nat} {H : ex_H} {S : SS} {R : Int32 × Int32 × Int32 × Int32} {mn : Int32} {C N : Nat → Int32} (hS : mo_at H S R mn C N) {i j : Nat} (hi : i < S.2.2.1.1.1) (hj : j < S.2.2.1.1.2.1) : ex_Met mX10_isMasked (d + 1) 0 0 H [.ref 86, .int (nI i), .int (nI j)] (ex_r H (.int (nI (S.2.2.1.1.2.2.2 (j * S.2.2.1.1.1 + i))))) := by
  obtain ⟨a1, ⟨hfi, hsd, hkp⟩, ⟨W, a2, hw0, ⟨hcn, hwh⟩, hwi⟩, ⟨T, a3, htn, htx⟩, ⟨F, a4, hfl⟩, ⟨IF, IL, IS, a5, a6, a7, him⟩, ⟨BX, BY, BG, a8, a9, a10, hbn, hbk⟩, a11, a12⟩ := id hS
  obtain ⟨⟨⟨hz1, hz2, hz3, hz4⟩, hgm⟩, hW0, hW1, hWd⟩ := id hw0
  have h82 := pl_80 hz2 hz4 hi hj
  have hd := hWd i j hi hj
  have hg := hgm _ (pi_lt hi hj)
  rw [Nat.zero_add] at hd
  refine ex_meth [(0, .ref 86), (1, .int (nI i)), (2, .int (nI j))] rfl rfl rfl (fun b => Nat.le_of_ble_eq_true rfl) ?_
  refine ew_aload_n (M := mX10_isMasked) dX10_isMasked_0 rfl (Or.inr (Or.inl ⟨_, rfl⟩)) ?_
  refine ew_get (M := mX10_isMasked) dX10_isMasked_1 fX10_7 (by repeat (first | with_reducible assumption | refine ex_eq ?_ | refine ex_ne ?_ (by omega) | exact ex_lt (by with_reducible assumption) | rw [List.length_set] | assumption)) (by rfl) ?_
  refine ew_aload_n (M := mX10_isMasked) dX10_isMasked_4 rfl (Or.inr (Or.inl ⟨_, rfl⟩)) ?_
  refine ew_iload_n (M := mX10_isMasked) dX10_isMasked_5 rfl ?_
  refine ew_iload_n (M := mX10_isMasked) dX10_isMasked_6 rfl ?_
  refine ew_callV (M := mX10_isMasked) dX10_isMasked_7 vX10_54 (by repeat (first | with_reducible assumption | refine ex_eq ?_ | refine ex_ne ?_ (by omega) | exact ex_lt (by with_reducible assumption) | rw [List.length_set] | assumption)) rfl (ms_place) rfl (Nat.le_of_ble_eq_true rfl) ⟨Nat.le_refl _, Nat.le_refl _⟩ rfl (fun H7 r7 q7 => ?_)
  obtain ⟨rfl, rfl⟩ := q7
  refine ew_iald (M := mX10_isMasked) (2 + 10 * j + i) dX10_isMasked_10 (by repeat (first | with_reducible assumption | refine ex_eq ?_ | refine ex_ne ?_ (by omega) | exact ex_lt (by with_reducible assumption) | rw [List.length_set] | assumption)) ⟨rfl, by omega, by decide⟩ ?_
  refine ew_sipush (M := mX10_isMasked) dX10_isMasked_11 (v := nI 256) (by decide) ?_
  refine ew_icmp_lt (M := mX10_isMasked) (tgt := 21) dX10_isMasked_14 rfl (fun c14 => ?_) (fun c14 => ?_)
  · rw [hd, nI_ltI (by omega) (by decide)] at c14
    refine ew_iconst (M := mX10_isMasked) dX10_isMasked_21 (v := nI 0) (by decide) ?_
    refine ew_iret (M := mX10_isMasked) dX10_isMasked_22 rfl (by first | rfl | decide) (Nat.le_refl _) (Nat.le_refl _) ?_
    exact ⟨rfl, by first | rw [show S.2.2.1.1.2.2.2 (j * S.2.2.1.1.1 + i) = 0 by omega] | rw [show S.2.2.1.1.2.2.2 (j * S.2.2.1.1.1 + i) = 1 by omega]⟩
  · rw [hd, nI_ltI (by omega) (by decide)] at c14
    refine ew_iconst (M := mX10_isMasked) dX10_isMasked_17 (v := nI 1) (by decide) ?_
    refine ew_goto (M := mX10_isMasked) (tgt := 22) dX10_isMasked_18 rfl ?_
    refine ew_iret (M := mX10_isMasked) dX10_isMasked_22 rfl (by first | rfl | decide) (Nat.le_refl _) (Nat.le_refl _) ?_
    exact ⟨rfl, by first | rw [show S.2.2.1.1.2.2.2 (j * S.2.2.1.1.1 + i) = 0 by omega] | rw [show S.2.2.1.1.2.2.2 (j * S.2.2.1.1.1 + i) = 1 by omega]⟩
theorem ms_isDot_y {d : Nat} {H : ex_H} {S : SS} {R : Int32 × Int32 × Int32 × Int32} {mn : Int32} {C N : Nat → Int32} (hS : mo_at H S R mn C N) {i j : Nat} (hi : i < S.2.2.1.1.1) (hj : j < S.2.2.1.1.2.1) : ex_Met mX10_isDot (d + 1) 0 0 H [.ref 86, .int (nI i), .int (nI j)] (ex_r H (.int (nI 1))) := by
  obtain ⟨a1, ⟨hfi, hsd, hkp⟩, ⟨W, a2, hw0, ⟨hcn, hwh⟩, hwi⟩, ⟨T, a3, htn, htx⟩, ⟨F, a4, hfl⟩, ⟨IF, IL, IS, a5, a6, a7, him⟩, ⟨BX, BY, BG, a8, a9, a10, hbn, hbk⟩, a11, a12⟩ := id hS
  obtain ⟨⟨⟨hz1, hz2, hz3, hz4⟩, hgm⟩, hW0, hW1, hWd⟩ := id hw0
  have e0 : W 0 - nI 1 = nI (S.2.2.1.1.1 - 1) := by rw [hW0, nI_s1 hz1]
  have e1 : W 1 - nI 1 = nI (S.2.2.1.1.2.1 - 1) := by
    have h1 : W 1 = nI S.2.2.1.1.2.1 := hW1
    rw [h1, nI_s1 hz3]
  refine ex_meth [(0, .ref 86), (1, .int (nI i)), (2, .int (nI j))] rfl rfl rfl (fun b => Nat.le_of_ble_eq_true rfl) ?_
  refine ew_iload_n (M := mX10_isDot) dX10_isDot_0 rfl ?_
  refine ew_i2l (M := mX10_isDot) dX10_isDot_1 ?_
  refine ew_lconst (M := mX10_isDot) dX10_isDot_2 (v := 0) (by decide) ?_
  refine ew_aload_n (M := mX10_isDot) dX10_isDot_3 rfl (Or.inr (Or.inl ⟨_, rfl⟩)) ?_
  refine ew_get (M := mX10_isDot) dX10_isDot_4 fX10_7 (by repeat (first | with_reducible assumption | refine ex_eq ?_ | refine ex_ne ?_ (by omega) | exact ex_lt (by with_reducible assumption) | rw [List.length_set] | assumption)) (by rfl) ?_
  refine ew_iconst (M := mX10_isDot) dX10_isDot_7 (v := nI 0) (by decide) ?_
  refine ew_iald (M := mX10_isDot) 0 dX10_isDot_8 (by repeat (first | with_reducible assumption | refine ex_eq ?_ | refine ex_ne ?_ (by omega) | exact ex_lt (by with_reducible assumption) | rw [List.length_set] | assumption)) ⟨rfl, by decide, by decide⟩ ?_
  refine ew_iconst (M := mX10_isDot) dX10_isDot_9 (v := nI 1) (by decide) ?_
  refine ew_isub (M := mX10_isDot) dX10_isDot_10 ?_
  rw [e0]
  refine ew_i2l (M := mX10_isDot) dX10_isDot_11 ?_
  refine ew_callS (M := mX10_isDot) dX10_isDot_12 vX10_58 (ms_in_y (l := nI 0) (by decide) rfl (nI_le (Nat.zero_le _) (by omega)) (nI_le (by omega) (by omega))) rfl (Nat.le_of_ble_eq_true rfl) ⟨Nat.le_refl _, Nat.le_refl _⟩ rfl (fun H12 r12 q12 => ?_)
  obtain ⟨rfl, rfl⟩ := q12
  refine ew_if_eq (M := mX10_isDot) (tgt := 40) dX10_isDot_15 rfl (fun h => absurd h (by decide)) (fun _ => ?_)
  refine ew_iload_n (M := mX10_isDot) dX10_isDot_18 rfl ?_
  refine ew_i2l (M := mX10_isDot) dX10_isDot_19 ?_
  refine ew_lconst (M := mX10_isDot) dX10_isDot_20 (v := 0) (by decide) ?_
  refine ew_aload_n (M := mX10_isDot) dX10_isDot_21 rfl (Or.inr (Or.inl ⟨_, rfl⟩)) ?_
  refine ew_get (M := mX10_isDot) dX10_isDot_22 fX10_7 (by repeat (first | with_reducible assumption | refine ex_eq ?_ | refine ex_ne ?_ (by omega) | exact ex_lt (by with_reducible assumption) | rw [List.length_set] | assumption)) (by rfl) ?_
  refine ew_iconst (M := mX10_isDot) dX10_isDot_25 (v := nI 1) (by decide) ?_
  refine ew_iald (M := mX10_isDot) 1 dX10_isDot_26 (by repeat (first | with_reducible assumption | refine ex_eq ?_ | refine ex_ne ?_ (by omega) | exact ex_lt (by with_reducible assumption) | rw [List.length_set] | assumption)) ⟨rfl, by decide, by decide⟩ ?_
  refine ew_iconst (M := mX10_isDot) dX10_isDot_27 (v := nI 1) (by decide) ?_
  refine ew_isub (M := mX10_isDot) dX10_isDot_28 ?_
  rw [e1]
  refine ew_i2l (M := mX10_isDot) dX10_isDot_29 ?_
  refine ew_callS (M := mX10_isDot) dX10_isDot_30 vX10_58 (ms_in_y (l := nI 0) (by decide) rfl (nI_le (Nat.zero_le _) (by omega)) (nI_le (by omega) (by omega))) rfl (Nat.le_of_ble_eq_true rfl) ⟨Nat.le_refl _, Nat.le_refl _⟩ rfl (fun H30 r30 q30 => ?_)
  obtain ⟨rfl, rfl⟩ := q30
  refine ew_if_eq (M := mX10_isDot) (tgt := 40) dX10_isDot_33 rfl (fun h => absurd h (by decide)) (fun _ => ?_)
  refine ew_iconst (M := mX10_isDot) dX10_isDot_36 (v := nI 1) (by decide) ?_
  refine ew_goto (M := mX10_isDot) (tgt := 41) dX10_isDot_37 rfl ?_
  refine ew_iret (M := mX10_isDot) dX10_isDot_41 rfl (by first | rfl | decide) (Nat.le_refl _) (Nat.le_refl _) ?_
  exact ⟨rfl, rfl⟩
theorem ms_isDot_n {d : Nat} {H : ex_H} {S : SS} {R : Int32 × Int32 × Int32 × Int32} {mn : Int32} {C N : Nat → Int32} (hS : mo_at H S R mn C N) {x y : Int32} (hn : ¬ pi_in S.2.2.1.1.1 S.2.2.1.1.2.1 x y) : ex_Met mX10_isDot (d + 1) 0 0 H [.ref 86, .int x, .int y] (ex_r H (.int (nI 0))) := by
  obtain ⟨a1, ⟨hfi, hsd, hkp⟩, ⟨W, a2, hw0, ⟨hcn, hwh⟩, hwi⟩, ⟨T, a3, htn, htx⟩, ⟨F, a4, hfl⟩, ⟨IF, IL, IS, a5, a6, a7, him⟩, ⟨BX, BY, BG, a8, a9, a10, hbn, hbk⟩, a11, a12⟩ := id hS
  obtain ⟨⟨⟨hz1, hz2, hz3, hz4⟩, hgm⟩, hW0, hW1, hWd⟩ := id hw0
  have e0 : W 0 - nI 1 = nI (S.2.2.1.1.1 - 1) := by rw [hW0, nI_s1 hz1]
  have e1 : W 1 - nI 1 = nI (S.2.2.1.1.2.1 - 1) := by
    have h1 : W 1 = nI S.2.2.1.1.2.1 := hW1
    rw [h1, nI_s1 hz3]
  have ex : ∀ {n : Nat} {z : Int32}, 1 ≤ n → n ≤ 10 → nI 0 ≤ z ∧ z ≤ nI (n - 1) → ∃ i, z = nI i ∧ i < n := fun h1 h2 h => by
    obtain ⟨i, hi, e⟩ := nI_of3 (by omega) h
    exact ⟨i, e, by omega⟩
  have n01 : ¬ (nI 0 = nI 1) := by decide
  by_cases hx : nI 0 ≤ x ∧ x ≤ nI (S.2.2.1.1.1 - 1)
  · have hy : ¬ (nI 0 ≤ y ∧ y ≤ nI (S.2.2.1.1.2.1 - 1)) := fun q => by
      obtain ⟨i, ei, hi⟩ := ex hz1 hz2 hx
      obtain ⟨j, ej, hj⟩ := ex hz3 (by omega) q
      exact hn ⟨i, j, ei, hi, ej, hj⟩
    refine ex_meth [(0, .ref 86), (1, .int x), (2, .int y)] rfl rfl rfl (fun b => Nat.le_of_ble_eq_true rfl) ?_
    refine ew_iload_n (M := mX10_isDot) dX10_isDot_0 rfl ?_
    refine ew_i2l (M := mX10_isDot) dX10_isDot_1 ?_
    refine ew_lconst (M := mX10_isDot) dX10_isDot_2 (v := 0) (by decide) ?_
    refine ew_aload_n (M := mX10_isDot) dX10_isDot_3 rfl (Or.inr (Or.inl ⟨_, rfl⟩)) ?_
    refine ew_get (M := mX10_isDot) dX10_isDot_4 fX10_7 (by repeat (first | with_reducible assumption | refine ex_eq ?_ | refine ex_ne ?_ (by omega) | exact ex_lt (by with_reducible assumption) | rw [List.length_set] | assumption)) (by rfl) ?_
    refine ew_iconst (M := mX10_isDot) dX10_isDot_7 (v := nI 0) (by decide) ?_
    refine ew_iald (M := mX10_isDot) 0 dX10_isDot_8 (by repeat (first | with_reducible assumption | refine ex_eq ?_ | refine ex_ne ?_ (by omega) | exact ex_lt (by with_reducible assumption) | rw [List.length_set] | assumption)) ⟨rfl, by decide, by decide⟩ ?_
    refine ew_iconst (M := mX10_isDot) dX10_isDot_9 (v := nI 1) (by decide) ?_
    refine ew_isub (M := mX10_isDot) dX10_isDot_10 ?_
    rw [e0]
    refine ew_i2l (M := mX10_isDot) dX10_isDot_11 ?_
    refine ew_callS (M := mX10_isDot) dX10_isDot_12 vX10_58 (ms_in_y (l := nI 0) (by decide) rfl hx.1 hx.2) rfl (Nat.le_of_ble_eq_true rfl) ⟨Nat.le_refl _, Nat.le_refl _⟩ rfl (fun H12 r12 q12 => ?_)
    obtain ⟨rfl, rfl⟩ := q12
    refine ew_if_eq (M := mX10_isDot) (tgt := 40) dX10_isDot_15 rfl (fun h => absurd h (by decide)) (fun _ => ?_)
    refine ew_iload_n (M := mX10_isDot) dX10_isDot_18 rfl ?_
    refine ew_i2l (M := mX10_isDot) dX10_isDot_19 ?_
    refine ew_lconst (M := mX10_isDot) dX10_isDot_20 (v := 0) (by decide) ?_
    refine ew_aload_n (M := mX10_isDot) dX10_isDot_21 rfl (Or.inr (Or.inl ⟨_, rfl⟩)) ?_
    refine ew_get (M := mX10_isDot) dX10_isDot_22 fX10_7 (by repeat (first | with_reducible assumption | refine ex_eq ?_ | refine ex_ne ?_ (by omega) | exact ex_lt (by with_reducible assumption) | rw [List.length_set] | assumption)) (by rfl) ?_
    refine ew_iconst (M := mX10_isDot) dX10_isDot_25 (v := nI 1) (by decide) ?_
    refine ew_iald (M := mX10_isDot) 1 dX10_isDot_26 (by repeat (first | with_reducible assumption | refine ex_eq ?_ | refine ex_ne ?_ (by omega) | exact ex_lt (by with_reducible assumption) | rw [List.length_set] | assumption)) ⟨rfl, by decide, by decide⟩ ?_
    refine ew_iconst (M := mX10_isDot) dX10_isDot_27 (v := nI 1) (by decide) ?_
    refine ew_isub (M := mX10_isDot) dX10_isDot_28 ?_
    rw [e1]
    refine ew_i2l (M := mX10_isDot) dX10_isDot_29 ?_
    refine ew_callS (M := mX10_isDot) dX10_isDot_30 vX10_58 (ms_in_n (l := nI 0) (by decide) rfl hy) rfl (Nat.le_of_ble_eq_true rfl) ⟨Nat.le_refl _, Nat.le_refl _⟩ rfl (fun H30 r30 q30 => ?_)
    obtain ⟨rfl, rfl⟩ := q30
    refine ew_if_eq (M := mX10_isDot) (tgt := 40) dX10_isDot_33 rfl (fun _ => ?_) (fun h => absurd (by decide) h)
    refine ew_iconst (M := mX10_isDot) dX10_isDot_40 (v := nI 0) (by decide) ?_
    refine ew_iret (M := mX10_isDot) dX10_isDot_41 rfl (by first | rfl | decide) (Nat.le_refl _) (Nat.le_refl _) ?_
    exact ⟨rfl, rfl⟩
  · refine ex_meth [(0, .ref 86), (1, .int x), (2, .int y)] rfl rfl rfl (fun b => Nat.le_of_ble_eq_true rfl) ?_
    refine ew_iload_n (M := mX10_isDot) dX10_isDot_0 rfl ?_
    refine ew_i2l (M := mX10_isDot) dX10_isDot_1 ?_
    refine ew_lconst (M := mX10_isDot) dX10_isDot_2 (v := 0) (by decide) ?_
    refine ew_aload_n (M := mX10_isDot) dX10_isDot_3 rfl (Or.inr (Or.inl ⟨_, rfl⟩)) ?_
    refine ew_get (M := mX10_isDot) dX10_isDot_4 fX10_7 (by repeat (first | with_reducible assumption | refine ex_eq ?_ | refine ex_ne ?_ (by omega) | exact ex_lt (by with_reducible assumption) | rw [List.length_set] | assumption)) (by rfl) ?_
    refine ew_iconst (M := mX10_isDot) dX10_isDot_7 (v := nI 0) (by decide) ?_
    refine ew_iald (M := mX10_isDot) 0 dX10_isDot_8 (by repeat (first | with_reducible assumption | refine ex_eq ?_ | refine ex_ne ?_ (by omega) | exact ex_lt (by with_reducible assumption) | rw [List.length_set] | assumption)) ⟨rfl, by decide, by decide⟩ ?_
    refine ew_iconst (M := mX10_isDot) dX10_isDot_9 (v := nI 1) (by decide) ?_
    refine ew_isub (M := mX10_isDot) dX10_isDot_10 ?_
    rw [e0]
    refine ew_i2l (M := mX10_isDot) dX10_isDot_11 ?_
    refine ew_callS (M := mX10_isDot) dX10_isDot_12 vX10_58 (ms_in_n (l := nI 0) (by decide) rfl hx) rfl (Nat.le_of_ble_eq_true rfl) ⟨Nat.le_refl _, Nat.le_refl _⟩ rfl (fun H12 r12 q12 => ?_)
    obtain ⟨rfl, rfl⟩ := q12
    refine ew_if_eq (M := mX10_isDot) (tgt := 40) dX10_isDot_15 rfl (fun _ => ?_) (fun h => absurd (by decide) h)
    refine ew_iconst (M := mX10_isDot) dX10_isDot_40 (v := nI 0) (by decide) ?_
    refine ew_iret (M := mX10_isDot) dX10_isDot_41 rfl (by first | rfl | decide) (Nat.le_refl _) (Nat.le_refl _) ?_
    exact ⟨rfl, rfl⟩
theorem ms_part {d : Nat} {H : ex_H} {S : SS} {R : Int32 × Int32 × Int32 × Int32} {mn : Int32} {C N : Nat → Int32} (hS : mo_at H S R mn C N) {f c : Nat} (hf : f < S.2.2.1.2.1.1) (hc : c < 5) : ex_Met mX10_part d 0 0 H [.ref 86, .int (nI f), .int (nI c)] (fun H' r => H = H' ∧ ∃ F, H[89]? = some (ar .int 31 F) ∧ mfl F 0 S.2.2.1.2.1 ∧ r = some (.int (F (1 + 5 * f + c)))) := by
  obtain ⟨a1, ⟨hfi, hsd, hkp⟩, ⟨W, a2, hw0, ⟨hcn, hwh⟩, hwi⟩, ⟨T, a3, htn, htx⟩, ⟨F, a4, hfl⟩, ⟨IF, IL, IS, a5, a6, a7, him⟩, ⟨BX, BY, BG, a8, a9, a10, hbn, hbk⟩, a11, a12⟩ := id hS
  have h6 := hfl.1
  refine ex_meth [(0, .ref 86), (1, .int (nI f)), (2, .int (nI c))] rfl rfl rfl (fun b => Nat.le_of_ble_eq_true rfl) ?_
  refine ew_aload_n (M := mX10_part) dX10_part_0 rfl (Or.inr (Or.inl ⟨_, rfl⟩)) ?_
  refine ew_get (M := mX10_part) dX10_part_1 fX10_20 (by repeat (first | with_reducible assumption | refine ex_eq ?_ | refine ex_ne ?_ (by omega) | exact ex_lt (by with_reducible assumption) | rw [List.length_set] | assumption)) (by rfl) ?_
  refine ew_iconst (M := mX10_part) dX10_part_4 (v := nI 1) (by decide) ?_
  refine ew_iconst (M := mX10_part) dX10_part_5 (v := nI 5) (by decide) ?_
  refine ew_iload_n (M := mX10_part) dX10_part_6 rfl ?_
  refine ew_imul (M := mX10_part) dX10_part_7 ?_
  refine ew_iadd (M := mX10_part) dX10_part_8 ?_
  refine ew_iload_n (M := mX10_part) dX10_part_9 rfl ?_
  refine ew_iadd (M := mX10_part) dX10_part_10 ?_
  refine ew_iald (M := mX10_part) (1 + 5 * f + c) dX10_part_11 (by repeat (first | with_reducible assumption | refine ex_eq ?_ | refine ex_ne ?_ (by omega) | exact ex_lt (by with_reducible assumption) | rw [List.length_set] | assumption)) ⟨by rw [pk_mul, nI_add, nI_add], by omega, by decide⟩ ?_
  refine ew_iret (M := mX10_part) dX10_part_12 rfl (by first | rfl | decide) (Nat.le_refl _) (Nat.le_refl _) ?_
  exact ⟨rfl, F, a4, hfl, rfl⟩
theorem ms_part0 {d : Nat} {H : ex_H} {S : SS} {R : Int32 × Int32 × Int32 × Int32} {mn : Int32} {C N : Nat → Int32} (hS : mo_at H S R mn C N) {f : Nat} (hf : f < S.2.2.1.2.1.1) : ex_Met mX10_part d 0 0 H [.ref 86, .int (nI f), .int (nI 0)] (ex_r H (.int (nI (S.2.2.1.2.1.2 f).1))) := by
  obtain ⟨a1, ⟨hfi, hsd, hkp⟩, ⟨W, a2, hw0, ⟨hcn, hwh⟩, hwi⟩, ⟨T, a3, htn, htx⟩, ⟨F, a4, hfl⟩, ⟨IF, IL, IS, a5, a6, a7, him⟩, ⟨BX, BY, BG, a8, a9, a10, hbn, hbk⟩, a11, a12⟩ := id hS
  have h6 := hfl.1
  have hv := (hfl.2.2 f hf).1.1
  rw [Nat.zero_add] at hv
  refine ex_meth [(0, .ref 86), (1, .int (nI f)), (2, .int (nI 0))] rfl rfl rfl (fun b => Nat.le_of_ble_eq_true rfl) ?_
  refine ew_aload_n (M := mX10_part) dX10_part_0 rfl (Or.inr (Or.inl ⟨_, rfl⟩)) ?_
  refine ew_get (M := mX10_part) dX10_part_1 fX10_20 (by repeat (first | with_reducible assumption | refine ex_eq ?_ | refine ex_ne ?_ (by omega) | exact ex_lt (by with_reducible assumption) | rw [List.length_set] | assumption)) (by rfl) ?_
  refine ew_iconst (M := mX10_part) dX10_part_4 (v := nI 1) (by decide) ?_
  refine ew_iconst (M := mX10_part) dX10_part_5 (v := nI 5) (by decide) ?_
  refine ew_iload_n (M := mX10_part) dX10_part_6 rfl ?_
  refine ew_imul (M := mX10_part) dX10_part_7 ?_
  refine ew_iadd (M := mX10_part) dX10_part_8 ?_
  refine ew_iload_n (M := mX10_part) dX10_part_9 rfl ?_
  refine ew_iadd (M := mX10_part) dX10_part_10 ?_
  refine ew_iald (M := mX10_part) (1 + 5 * f + 0) dX10_part_11 (by repeat (first | with_reducible assumption | refine ex_eq ?_ | refine ex_ne ?_ (by omega) | exact ex_lt (by with_reducible assumption) | rw [List.length_set] | assumption)) ⟨by rw [pk_mul, nI_add, nI_add], by omega, by decide⟩ ?_
  refine ew_iret (M := mX10_part) dX10_part_12 rfl (by first | rfl | decide) (Nat.le_refl _) (Nat.le_refl _) ?_
  exact ⟨rfl, by rw [← hv]; rfl⟩
theorem ms_part1 {d : Nat} {H : ex_H} {S : SS} {R : Int32 × Int32 × Int32 × Int32} {mn : Int32} {C N : Nat → Int32} (hS : mo_at H S R mn C N) {f : Nat} (hf : f < S.2.2.1.2.1.1) : ex_Met mX10_part d 0 0 H [.ref 86, .int (nI f), .int (nI 1)] (ex_r H (.int (nI (S.2.2.1.2.1.2 f).2.1))) := by
  obtain ⟨a1, ⟨hfi, hsd, hkp⟩, ⟨W, a2, hw0, ⟨hcn, hwh⟩, hwi⟩, ⟨T, a3, htn, htx⟩, ⟨F, a4, hfl⟩, ⟨IF, IL, IS, a5, a6, a7, him⟩, ⟨BX, BY, BG, a8, a9, a10, hbn, hbk⟩, a11, a12⟩ := id hS
  have h6 := hfl.1
  have hv := (hfl.2.2 f hf).1.2.1
  rw [Nat.zero_add] at hv
  refine ex_meth [(0, .ref 86), (1, .int (nI f)), (2, .int (nI 1))] rfl rfl rfl (fun b => Nat.le_of_ble_eq_true rfl) ?_
  refine ew_aload_n (M := mX10_part) dX10_part_0 rfl (Or.inr (Or.inl ⟨_, rfl⟩)) ?_
  refine ew_get (M := mX10_part) dX10_part_1 fX10_20 (by repeat (first | with_reducible assumption | refine ex_eq ?_ | refine ex_ne ?_ (by omega) | exact ex_lt (by with_reducible assumption) | rw [List.length_set] | assumption)) (by rfl) ?_
  refine ew_iconst (M := mX10_part) dX10_part_4 (v := nI 1) (by decide) ?_
  refine ew_iconst (M := mX10_part) dX10_part_5 (v := nI 5) (by decide) ?_
  refine ew_iload_n (M := mX10_part) dX10_part_6 rfl ?_
  refine ew_imul (M := mX10_part) dX10_part_7 ?_
  refine ew_iadd (M := mX10_part) dX10_part_8 ?_
  refine ew_iload_n (M := mX10_part) dX10_part_9 rfl ?_
  refine ew_iadd (M := mX10_part) dX10_part_10 ?_
  refine ew_iald (M := mX10_part) (1 + 5 * f + 1) dX10_part_11 (by repeat (first | with_reducible assumption | refine ex_eq ?_ | refine ex_ne ?_ (by omega) | exact ex_lt (by with_reducible assumption) | rw [List.length_set] | assumption)) ⟨by rw [pk_mul, nI_add, nI_add], by omega, by decide⟩ ?_
  refine ew_iret (M := mX10_part) dX10_part_12 rfl (by first | rfl | decide) (Nat.le_refl _) (Nat.le_refl _) ?_
  exact ⟨rfl, by rw [← hv]⟩
theorem ms_part2 {d : Nat} {H : ex_H} {S : SS} {R : Int32 × Int32 × Int32 × Int32} {mn : Int32} {C N : Nat → Int32} (hS : mo_at H S R mn C N) {f : Nat} (hf : f < S.2.2.1.2.1.1) : ex_Met mX10_part d 0 0 H [.ref 86, .int (nI f), .int (nI 2)] (ex_r H (.int (nI (S.2.2.1.2.1.2 f).2.2.1))) := by
  obtain ⟨a1, ⟨hfi, hsd, hkp⟩, ⟨W, a2, hw0, ⟨hcn, hwh⟩, hwi⟩, ⟨T, a3, htn, htx⟩, ⟨F, a4, hfl⟩, ⟨IF, IL, IS, a5, a6, a7, him⟩, ⟨BX, BY, BG, a8, a9, a10, hbn, hbk⟩, a11, a12⟩ := id hS
  have h6 := hfl.1
  have hv := (hfl.2.2 f hf).1.2.2.1
  rw [Nat.zero_add] at hv
  refine ex_meth [(0, .ref 86), (1, .int (nI f)), (2, .int (nI 2))] rfl rfl rfl (fun b => Nat.le_of_ble_eq_true rfl) ?_
  refine ew_aload_n (M := mX10_part) dX10_part_0 rfl (Or.inr (Or.inl ⟨_, rfl⟩)) ?_
  refine ew_get (M := mX10_part) dX10_part_1 fX10_20 (by repeat (first | with_reducible assumption | refine ex_eq ?_ | refine ex_ne ?_ (by omega) | exact ex_lt (by with_reducible assumption) | rw [List.length_set] | assumption)) (by rfl) ?_
  refine ew_iconst (M := mX10_part) dX10_part_4 (v := nI 1) (by decide) ?_
  refine ew_iconst (M := mX10_part) dX10_part_5 (v := nI 5) (by decide) ?_
  refine ew_iload_n (M := mX10_part) dX10_part_6 rfl ?_
  refine ew_imul (M := mX10_part) dX10_part_7 ?_
  refine ew_iadd (M := mX10_part) dX10_part_8 ?_
  refine ew_iload_n (M := mX10_part) dX10_part_9 rfl ?_
  refine ew_iadd (M := mX10_part) dX10_part_10 ?_
  refine ew_iald (M := mX10_part) (1 + 5 * f + 2) dX10_part_11 (by repeat (first | with_reducible assumption | refine ex_eq ?_ | refine ex_ne ?_ (by omega) | exact ex_lt (by with_reducible assumption) | rw [List.length_set] | assumption)) ⟨by rw [pk_mul, nI_add, nI_add], by omega, by decide⟩ ?_
  refine ew_iret (M := mX10_part) dX10_part_12 rfl (by first | rfl | decide) (Nat.le_refl _) (Nat.le_refl _) ?_
  exact ⟨rfl, by rw [← hv]⟩
theorem ms_part3 {d : Nat} {H : ex_H} {S : SS} {R : Int32 × Int32 × Int32 × Int32} {mn : Int32} {C N : Nat → Int32} (hS : mo_at H S R mn C N) {f : Nat} (hf : f < S.2.2.1.2.1.1) : ex_Met mX10_part d 0 0 H [.ref 86, .int (nI f), .int (nI 3)] (ex_r H (.int (nI (S.2.2.1.2.1.2 f).2.2.2.1))) := by
  obtain ⟨a1, ⟨hfi, hsd, hkp⟩, ⟨W, a2, hw0, ⟨hcn, hwh⟩, hwi⟩, ⟨T, a3, htn, htx⟩, ⟨F, a4, hfl⟩, ⟨IF, IL, IS, a5, a6, a7, him⟩, ⟨BX, BY, BG, a8, a9, a10, hbn, hbk⟩, a11, a12⟩ := id hS
  have h6 := hfl.1
  have hv := (hfl.2.2 f hf).1.2.2.2.1
  rw [Nat.zero_add] at hv
  refine ex_meth [(0, .ref 86), (1, .int (nI f)), (2, .int (nI 3))] rfl rfl rfl (fun b => Nat.le_of_ble_eq_true rfl) ?_
  refine ew_aload_n (M := mX10_part) dX10_part_0 rfl (Or.inr (Or.inl ⟨_, rfl⟩)) ?_
  refine ew_get (M := mX10_part) dX10_part_1 fX10_20 (by repeat (first | with_reducible assumption | refine ex_eq ?_ | refine ex_ne ?_ (by omega) | exact ex_lt (by with_reducible assumption) | rw [List.length_set] | assumption)) (by rfl) ?_
  refine ew_iconst (M := mX10_part) dX10_part_4 (v := nI 1) (by decide) ?_
  refine ew_iconst (M := mX10_part) dX10_part_5 (v := nI 5) (by decide) ?_
  refine ew_iload_n (M := mX10_part) dX10_part_6 rfl ?_
  refine ew_imul (M := mX10_part) dX10_part_7 ?_
  refine ew_iadd (M := mX10_part) dX10_part_8 ?_
  refine ew_iload_n (M := mX10_part) dX10_part_9 rfl ?_
  refine ew_iadd (M := mX10_part) dX10_part_10 ?_
  refine ew_iald (M := mX10_part) (1 + 5 * f + 3) dX10_part_11 (by repeat (first | with_reducible assumption | refine ex_eq ?_ | refine ex_ne ?_ (by omega) | exact ex_lt (by with_reducible assumption) | rw [List.length_set] | assumption)) ⟨by rw [pk_mul, nI_add, nI_add], by omega, by decide⟩ ?_
  refine ew_iret (M := mX10_part) dX10_part_12 rfl (by first | rfl | decide) (Nat.le_refl _) (Nat.le_refl _) ?_
  exact ⟨rfl, by rw [← hv]⟩
theorem ms_part4 {d : Nat} {H : ex_H} {S : SS} {R : Int32 × Int32 × Int32 × Int32} {mn : Int32} {C N : Nat → Int32} (hS : mo_at H S R mn C N) {f : Nat} (hf : f < S.2.2.1.2.1.1) : ex_Met mX10_part d 0 0 H [.ref 86, .int (nI f), .int (nI 4)] (ex_r H (.int (nI (S.2.2.1.2.1.2 f).2.2.2.2))) := by
  obtain ⟨a1, ⟨hfi, hsd, hkp⟩, ⟨W, a2, hw0, ⟨hcn, hwh⟩, hwi⟩, ⟨T, a3, htn, htx⟩, ⟨F, a4, hfl⟩, ⟨IF, IL, IS, a5, a6, a7, him⟩, ⟨BX, BY, BG, a8, a9, a10, hbn, hbk⟩, a11, a12⟩ := id hS
  have h6 := hfl.1
  have hv := (hfl.2.2 f hf).1.2.2.2.2
  rw [Nat.zero_add] at hv
  refine ex_meth [(0, .ref 86), (1, .int (nI f)), (2, .int (nI 4))] rfl rfl rfl (fun b => Nat.le_of_ble_eq_true rfl) ?_
  refine ew_aload_n (M := mX10_part) dX10_part_0 rfl (Or.inr (Or.inl ⟨_, rfl⟩)) ?_
  refine ew_get (M := mX10_part) dX10_part_1 fX10_20 (by repeat (first | with_reducible assumption | refine ex_eq ?_ | refine ex_ne ?_ (by omega) | exact ex_lt (by with_reducible assumption) | rw [List.length_set] | assumption)) (by rfl) ?_
  refine ew_iconst (M := mX10_part) dX10_part_4 (v := nI 1) (by decide) ?_
  refine ew_iconst (M := mX10_part) dX10_part_5 (v := nI 5) (by decide) ?_
  refine ew_iload_n (M := mX10_part) dX10_part_6 rfl ?_
  refine ew_imul (M := mX10_part) dX10_part_7 ?_
  refine ew_iadd (M := mX10_part) dX10_part_8 ?_
  refine ew_iload_n (M := mX10_part) dX10_part_9 rfl ?_
  refine ew_iadd (M := mX10_part) dX10_part_10 ?_
  refine ew_iald (M := mX10_part) (1 + 5 * f + 4) dX10_part_11 (by repeat (first | with_reducible assumption | refine ex_eq ?_ | refine ex_ne ?_ (by omega) | exact ex_lt (by with_reducible assumption) | rw [List.length_set] | assumption)) ⟨by rw [pk_mul, nI_add, nI_add], by omega, by decide⟩ ?_
  refine ew_iret (M := mX10_part) dX10_part_12 rfl (by first | rfl | decide) (Nat.le_refl _) (Nat.le_refl _) ?_
  exact ⟨rfl, by rw [← hv]⟩
theorem ms_isFilter_y {d : Nat} {H : ex_H} {S : SS} {R : Int32 × Int32 × Int32 × Int32} {mn : Int32} {C N : Nat → Int32} (hS : mo_at H S R mn C N) {f : Nat} (hf : f < S.2.2.1.2.1.1) : ex_Met mX10_isFilter (d + 1) 0 0 H [.ref 86, .int (nI f)] (ex_r H (.int (nI 1))) := by
  obtain ⟨a1, ⟨hfi, hsd, hkp⟩, ⟨W, a2, hw0, ⟨hcn, hwh⟩, hwi⟩, ⟨T, a3, htn, htx⟩, ⟨F, a4, hfl⟩, ⟨IF, IL, IS, a5, a6, a7, him⟩, ⟨BX, BY, BG, a8, a9, a10, hbn, hbk⟩, a11, a12⟩ := id hS
  have h6 := hfl.1
  have e0 : F 0 = nI S.2.2.1.2.1.1 := hfl.2.1
  refine ex_meth [(0, .ref 86), (1, .int (nI f))] rfl rfl rfl (fun b => Nat.le_of_ble_eq_true rfl) ?_
  refine ew_iload_n (M := mX10_isFilter) dX10_isFilter_0 rfl ?_
  refine ew_i2l (M := mX10_isFilter) dX10_isFilter_1 ?_
  refine ew_lconst (M := mX10_isFilter) dX10_isFilter_2 (v := 0) (by decide) ?_
  refine ew_aload_n (M := mX10_isFilter) dX10_isFilter_3 rfl (Or.inr (Or.inl ⟨_, rfl⟩)) ?_
  refine ew_get (M := mX10_isFilter) dX10_isFilter_4 fX10_20 (by repeat (first | with_reducible assumption | refine ex_eq ?_ | refine ex_ne ?_ (by omega) | exact ex_lt (by with_reducible assumption) | rw [List.length_set] | assumption)) (by rfl) ?_
  refine ew_iconst (M := mX10_isFilter) dX10_isFilter_7 (v := nI 0) (by decide) ?_
  refine ew_iald (M := mX10_isFilter) 0 dX10_isFilter_8 (by repeat (first | with_reducible assumption | refine ex_eq ?_ | refine ex_ne ?_ (by omega) | exact ex_lt (by with_reducible assumption) | rw [List.length_set] | assumption)) ⟨rfl, by decide, by decide⟩ ?_
  refine ew_iconst (M := mX10_isFilter) dX10_isFilter_9 (v := nI 1) (by decide) ?_
  refine ew_isub (M := mX10_isFilter) dX10_isFilter_10 ?_
  rw [e0, nI_s1 (by omega)]
  refine ew_i2l (M := mX10_isFilter) dX10_isFilter_11 ?_
  refine ew_callS (M := mX10_isFilter) dX10_isFilter_12 vX10_58 (ms_in_y (l := nI 0) (by decide) rfl (nI_le (Nat.zero_le _) (by omega)) (nI_le (by omega) (by omega))) rfl (Nat.le_of_ble_eq_true rfl) ⟨Nat.le_refl _, Nat.le_refl _⟩ rfl (fun H12 r12 q12 => ?_)
  obtain ⟨rfl, rfl⟩ := q12
  refine ew_iret (M := mX10_isFilter) dX10_isFilter_15 rfl (by first | rfl | decide) (Nat.le_refl _) (Nat.le_refl _) ?_
  exact ⟨rfl, rfl⟩
theorem ms_isFilter_n {d : Nat} {H : ex_H} {S : SS} {R : Int32 × Int32 × Int32 × Int32} {mn : Int32} {C N : Nat → Int32} (hS : mo_at H S R mn C N) {x : Int32} (hn : ¬ fin S.2.2.1.2.1.1 x) : ex_Met mX10_isFilter (d + 1) 0 0 H [.ref 86, .int (x)] (ex_r H (.int (nI 0))) := by
  obtain ⟨a1, ⟨hfi, hsd, hkp⟩, ⟨W, a2, hw0, ⟨hcn, hwh⟩, hwi⟩, ⟨T, a3, htn, htx⟩, ⟨F, a4, hfl⟩, ⟨IF, IL, IS, a5, a6, a7, him⟩, ⟨BX, BY, BG, a8, a9, a10, hbn, hbk⟩, a11, a12⟩ := id hS
  have h6 := hfl.1
  have e0 : F 0 = nI S.2.2.1.2.1.1 := hfl.2.1
  refine ex_meth [(0, .ref 86), (1, .int (x))] rfl rfl rfl (fun b => Nat.le_of_ble_eq_true rfl) ?_
  refine ew_iload_n (M := mX10_isFilter) dX10_isFilter_0 rfl ?_
  refine ew_i2l (M := mX10_isFilter) dX10_isFilter_1 ?_
  refine ew_lconst (M := mX10_isFilter) dX10_isFilter_2 (v := 0) (by decide) ?_
  refine ew_aload_n (M := mX10_isFilter) dX10_isFilter_3 rfl (Or.inr (Or.inl ⟨_, rfl⟩)) ?_
  refine ew_get (M := mX10_isFilter) dX10_isFilter_4 fX10_20 (by repeat (first | with_reducible assumption | refine ex_eq ?_ | refine ex_ne ?_ (by omega) | exact ex_lt (by with_reducible assumption) | rw [List.length_set] | assumption)) (by rfl) ?_
  refine ew_iconst (M := mX10_isFilter) dX10_isFilter_7 (v := nI 0) (by decide) ?_
  refine ew_iald (M := mX10_isFilter) 0 dX10_isFilter_8 (by repeat (first | with_reducible assumption | refine ex_eq ?_ | refine ex_ne ?_ (by omega) | exact ex_lt (by with_reducible assumption) | rw [List.length_set] | assumption)) ⟨rfl, by decide, by decide⟩ ?_
  refine ew_iconst (M := mX10_isFilter) dX10_isFilter_9 (v := nI 1) (by decide) ?_
  refine ew_isub (M := mX10_isFilter) dX10_isFilter_10 ?_
  rw [e0]
  refine ew_i2l (M := mX10_isFilter) dX10_isFilter_11 ?_
  refine ew_callS (M := mX10_isFilter) dX10_isFilter_12 vX10_58 (ms_in_n (l := nI 0) (by decide) rfl (fin_not h6 hn)) rfl (Nat.le_of_ble_eq_true rfl) ⟨Nat.le_refl _, Nat.le_refl _⟩ rfl (fun H12 r12 q12 => ?_)
  obtain ⟨rfl, rfl⟩ := q12
  refine ew_iret (M := mX10_isFilter) dX10_isFilter_15 rfl (by first | rfl | decide) (Nat.le_refl _) (Nat.le_refl _) ?_
  exact ⟨rfl, rfl⟩
