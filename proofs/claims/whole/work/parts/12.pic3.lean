def pm_tally (w : Nat) (g m : Nat → Nat) (a b a2 b2 : Nat) (g0 : Int32) : Nat := fl (fun j n => fl (fun i n => if m ((b + j) * w + (a + i)) = 0 then (if g0 < nI (g ((b + j) * w + (a + i))) then n else n + 1) else n) (a2 - a + 1) n) (b2 - b + 1) 0
theorem sp_dotsUpTo {d : Nat} {H : ex_H} {p w h : Nat} {g m : Nat → Nat} (hp : pi_is H p w h g m) {a b a2 b2 : Nat} {g0 : Int32} (ha : a ≤ a2) (ha2 : a2 < w) (hb : b ≤ b2) (hb2 : b2 < h) : ex_Met mX4_dotsUpTo (d + 2) 0 0 H [.ref p, .int (nI a), .int (nI b), .int (nI a2), .int (nI b2), .int g0] (ex_r H (.int (nI (pm_tally w g m a b a2 b2 g0)))) := by
  obtain ⟨hok, gs, ms, hp0, hct⟩ := id hp
  obtain ⟨hz, hgm⟩ := id hok
  obtain ⟨hp1, hp2, hp3⟩ := id hp0
  have h80 := pi_80 hz
  obtain ⟨hz1, hz2, hz3, hz4⟩ := id hz
  refine ex_meth [(0, .ref p), (1, .int (nI a)), (2, .int (nI b)), (3, .int (nI a2)), (4, .int (nI b2)), (5, .int g0)] rfl rfl rfl (fun b => Nat.le_of_ble_eq_true rfl) ?_
  refine ew_iconst (M := mX4_dotsUpTo) dX4_dotsUpTo_0 (v := nI 0) (by decide) ?_
  refine ew_istore (M := mX4_dotsUpTo) dX4_dotsUpTo_1 (by decide) rfl ?_
  refine ew_iload_n (M := mX4_dotsUpTo) dX4_dotsUpTo_3 rfl ?_
  refine ew_istore (M := mX4_dotsUpTo) dX4_dotsUpTo_4 (by decide) rfl ?_
  refine ew_ls [(0, .ref p), (1, .int (nI a)), (2, .int (nI b)), (3, .int (nI a2)), (4, .int (nI b2)), (5, .int g0), (6, .int (nI 0)), (7, .int (nI (b + 0)))] ⟨rfl, rfl, rfl, rfl, rfl, rfl, rfl, rfl, trivial⟩ ?_
  refine fl_down (F := fun j n => fl (fun i n => if m ((b + j) * w + (a + i)) = 0 then (if g0 < nI (g ((b + j) * w + (a + i))) then n else n + 1) else n) (a2 - a + 1) n) (P := fun j n => ex_W mX4_dotsUpTo (d + 2) 0 0 _ H 6 [(0, .ref p), (1, .int (nI a)), (2, .int (nI b)), (3, .int (nI a2)), (4, .int (nI b2)), (5, .int g0), (6, .int (nI n)), (7, .int (nI (b + j)))] [] 0 0) (b2 - b + 1) 0 (fun j n hj _ k => ?_) ?_
  · refine ew_iload (M := mX4_dotsUpTo) dX4_dotsUpTo_6 rfl ?_
    refine ew_iload (M := mX4_dotsUpTo) dX4_dotsUpTo_8 rfl ?_
    refine ew_icmp_gt (M := mX4_dotsUpTo) (tgt := 61) dX4_dotsUpTo_10 rfl (fun h => absurd h (nI_nlt (by omega) (by omega))) (fun _ => ?_)
    refine ew_iload_n (M := mX4_dotsUpTo) dX4_dotsUpTo_13 rfl ?_
    refine ew_istore (M := mX4_dotsUpTo) dX4_dotsUpTo_14 (by decide) rfl ?_
    refine ew_ls [(0, .ref p), (1, .int (nI a)), (2, .int (nI b)), (3, .int (nI a2)), (4, .int (nI b2)), (5, .int g0), (6, .int (nI n)), (7, .int (nI (b + j))), (8, .int (nI (a + 0)))] ⟨rfl, rfl, rfl, rfl, rfl, rfl, rfl, rfl, rfl, trivial⟩ ?_
    refine fl_down (F := (fun i n => if m ((b + j) * w + (a + i)) = 0 then (if g0 < nI (g ((b + j) * w + (a + i))) then n else n + 1) else n)) (P := fun i n => ex_W mX4_dotsUpTo (d + 2) 0 0 _ H 16 [(0, .ref p), (1, .int (nI a)), (2, .int (nI b)), (3, .int (nI a2)), (4, .int (nI b2)), (5, .int g0), (6, .int (nI n)), (7, .int (nI (b + j))), (8, .int (nI (a + i)))] [] 0 0) (a2 - a + 1) n (fun i n hi _ k => ?_) ?_
    · refine ew_iload (M := mX4_dotsUpTo) dX4_dotsUpTo_16 rfl ?_
      refine ew_iload_n (M := mX4_dotsUpTo) dX4_dotsUpTo_18 rfl ?_
      refine ew_icmp_gt (M := mX4_dotsUpTo) (tgt := 55) dX4_dotsUpTo_19 rfl (fun h => absurd h (nI_nlt (by omega) (by omega))) (fun _ => ?_)
      refine ew_aload_n (M := mX4_dotsUpTo) dX4_dotsUpTo_22 rfl (Or.inr (Or.inl ⟨_, rfl⟩)) ?_
      refine ew_iload (M := mX4_dotsUpTo) dX4_dotsUpTo_23 rfl ?_
      refine ew_iload (M := mX4_dotsUpTo) dX4_dotsUpTo_25 rfl ?_
      refine ew_callV (M := mX4_dotsUpTo) dX4_dotsUpTo_27 vX4_50 (by repeat (first | with_reducible assumption | refine ex_eq ?_ | refine ex_ne ?_ (by omega) | exact ex_lt (by with_reducible assumption) | rw [List.length_set] | assumption)) rfl (sp_isMasked hp (by omega) (by omega)) rfl (Nat.le_of_ble_eq_true rfl) ⟨Nat.le_refl _, Nat.le_refl _⟩ rfl (fun H27 r27 q27 => ?_)
      obtain ⟨rfl, rfl⟩ := q27
      refine ew_if_ne (M := mX4_dotsUpTo) (tgt := 49) dX4_dotsUpTo_30 rfl (fun c30 => ?_) (fun c30 => ?_)
      · rw [nI_z (by have := (hgm ((b + j) * w + (a + i)) (pi_lt (by omega) (by omega))).2; omega)] at c30
        refine ew_iinc (M := mX4_dotsUpTo) dX4_dotsUpTo_49 rfl (ex_inc (a + i)) (by decide) rfl ?_
        refine ew_goto (M := mX4_dotsUpTo) (tgt := 16) dX4_dotsUpTo_52 rfl ?_
        simp only [c30, ↓reduceIte] at k
        try simp only [c43, ↓reduceIte] at k
        refine ew_ls _ ?_ k
        exact ⟨rfl, rfl, rfl, rfl, rfl, rfl, rfl, rfl, rfl, trivial⟩
      · rw [nI_z (by have := (hgm ((b + j) * w + (a + i)) (pi_lt (by omega) (by omega))).2; omega)] at c30
        refine ew_aload_n (M := mX4_dotsUpTo) dX4_dotsUpTo_33 rfl (Or.inr (Or.inl ⟨_, rfl⟩)) ?_
        refine ew_iload (M := mX4_dotsUpTo) dX4_dotsUpTo_34 rfl ?_
        refine ew_iload (M := mX4_dotsUpTo) dX4_dotsUpTo_36 rfl ?_
        refine ew_callV (M := mX4_dotsUpTo) dX4_dotsUpTo_38 vX4_42 (by repeat (first | with_reducible assumption | refine ex_eq ?_ | refine ex_ne ?_ (by omega) | exact ex_lt (by with_reducible assumption) | rw [List.length_set] | assumption)) rfl (sp_greyOf hp (by omega) (by omega)) rfl (Nat.le_of_ble_eq_true rfl) ⟨Nat.le_refl _, Nat.le_refl _⟩ rfl (fun H38 r38 q38 => ?_)
        obtain ⟨rfl, rfl⟩ := q38
        refine ew_iload (M := mX4_dotsUpTo) dX4_dotsUpTo_41 rfl ?_
        refine ew_icmp_gt (M := mX4_dotsUpTo) (tgt := 49) dX4_dotsUpTo_43 rfl (fun c43 => ?_) (fun c43 => ?_)
        · refine ew_iinc (M := mX4_dotsUpTo) dX4_dotsUpTo_49 rfl (ex_inc (a + i)) (by decide) rfl ?_
          refine ew_goto (M := mX4_dotsUpTo) (tgt := 16) dX4_dotsUpTo_52 rfl ?_
          simp only [c30, ↓reduceIte] at k
          try simp only [c43, ↓reduceIte] at k
          refine ew_ls _ ?_ k
          exact ⟨rfl, rfl, rfl, rfl, rfl, rfl, rfl, rfl, rfl, trivial⟩
        · refine ew_iinc (M := mX4_dotsUpTo) dX4_dotsUpTo_46 rfl (ex_inc n) (by decide) rfl ?_
          refine ew_iinc (M := mX4_dotsUpTo) dX4_dotsUpTo_49 rfl (ex_inc (a + i)) (by decide) rfl ?_
          refine ew_goto (M := mX4_dotsUpTo) (tgt := 16) dX4_dotsUpTo_52 rfl ?_
          simp only [c30, ↓reduceIte] at k
          try simp only [c43, ↓reduceIte] at k
          refine ew_ls _ ?_ k
          exact ⟨rfl, rfl, rfl, rfl, rfl, rfl, rfl, rfl, rfl, trivial⟩
    · refine ew_iload (M := mX4_dotsUpTo) dX4_dotsUpTo_16 rfl ?_
      refine ew_iload_n (M := mX4_dotsUpTo) dX4_dotsUpTo_18 rfl ?_
      refine ew_icmp_gt (M := mX4_dotsUpTo) (tgt := 55) dX4_dotsUpTo_19 rfl (fun _ => ?_) (fun h => absurd (nI_lt (by omega) (by omega)) h)
      refine ew_iinc (M := mX4_dotsUpTo) dX4_dotsUpTo_55 rfl (ex_inc (b + j)) (by decide) rfl ?_
      refine ew_goto (M := mX4_dotsUpTo) (tgt := 6) dX4_dotsUpTo_58 rfl ?_
      refine ew_ls _ ?_ k
      exact ⟨rfl, rfl, rfl, rfl, rfl, rfl, rfl, rfl, trivial⟩
  · refine ew_iload (M := mX4_dotsUpTo) dX4_dotsUpTo_6 rfl ?_
    refine ew_iload (M := mX4_dotsUpTo) dX4_dotsUpTo_8 rfl ?_
    refine ew_icmp_gt (M := mX4_dotsUpTo) (tgt := 61) dX4_dotsUpTo_10 rfl (fun _ => ?_) (fun h => absurd (nI_lt (by omega) (by omega)) h)
    refine ew_iload (M := mX4_dotsUpTo) dX4_dotsUpTo_61 rfl ?_
    refine ew_iret (M := mX4_dotsUpTo) dX4_dotsUpTo_63 rfl (by first | rfl | decide) (Nat.le_refl _) (Nat.le_refl _) ?_
    exact ⟨rfl, rfl⟩
/-- where a dot of the turned picture comes from -/
def tu_x (how w i j : Nat) : Nat := if how = 2 then j else if how = 0 then w - 1 - i else i
def tu_y (how h i j : Nat) : Nat := if how = 2 then i else if how = 1 then h - 1 - j else j
def tu_g (how w h w0 : Nat) (g : Nat → Nat) (k : Nat) : Nat := if how = 3 then 255 - g (tu_y how h (k % w) (k / w) * w0 + tu_x how w (k % w) (k / w)) else g (tu_y how h (k % w) (k / w) * w0 + tu_x how w (k % w) (k / w))
def tu_m (how w h w0 : Nat) (m : Nat → Nat) (k : Nat) : Nat := m (tu_y how h (k % w) (k / w) * w0 + tu_x how w (k % w) (k / w))
theorem tu_at {w i j : Nat} (hi : i < w) : (j * w + i) % w = i ∧ (j * w + i) / w = j := by
  have hw : 0 < w := by omega
  refine ⟨by rw [Nat.add_comm, Nat.add_mul_mod_self_right, Nat.mod_eq_of_lt hi], ?_⟩
  rw [Nat.add_comm, Nat.add_mul_div_right _ _ hw, Nat.div_eq_of_lt hi, Nat.zero_add]
theorem tu_split {w h k : Nat} (hk : k < w * h) : ∃ i j, i < w ∧ j < h ∧ k = j * w + i := by
  have hw : 0 < w := by
    rcases Nat.eq_zero_or_pos w with e | e
    · subst e; simp at hk
    · exact e
  exact ⟨k % w, k / w, Nat.mod_lt _ hw, Nat.div_lt_of_lt_mul hk, by rw [Nat.mul_comm]; exact (Nat.div_add_mod k w).symm⟩
theorem sp_becomeTurned {d : Nat} {H : ex_H} {p q w h w0 h0 wa ha how : Nat} {g m : Nat → Nat} {gs0 ms0 : Nat → Int32} (hp : pi_at H p wa ha gs0 ms0) (hq : pi_is H q w0 h0 g m) (hpq : p + 2 < q ∨ q + 2 < p) (hz : pi_sz w h) (hh : how < 4) (hw : w = if how = 2 then h0 else w0) (hhh : h = if how = 2 then w0 else h0) : ex_Met mX4_becomeTurned (d + 2) 0 0 H [.ref p, .ref q, .int (nI how)] (fun H' r => r = none ∧ ex_ch H H' [p, p + 1, p + 2] ∧ pi_is H' p w h (tu_g how w h w0 g) (tu_m how w h w0 m)) := by
  obtain ⟨hok, gs, ms, hq0, hct⟩ := id hq
  obtain ⟨hqz, hgm⟩ := id hok
  obtain ⟨hq1, hq2, hq3⟩ := id hq0
  obtain ⟨hpp1, hpp2, hpp3⟩ := id hp
  have h80 := pi_80 hz
  obtain ⟨hz1, hz2, hz3, hz4⟩ := id hz
  obtain ⟨sw, hsw, hsw2⟩ : ∃ sw, (sw = if how = 2 then 1 else 0) ∧ sw < 2 := ⟨_, rfl, by split <;> omega⟩
  refine ex_meth [(0, .ref p), (1, .ref q), (2, .int (nI how))] rfl rfl rfl (fun b => Nat.le_of_ble_eq_true rfl) ?_
  have key : ∀ H2 : ex_H, ex_ch H H2 [p, p + 1, p + 2] → ∀ f e : Nat → Int32, pi_at H2 p w h f e → (∀ k, k < 0 * w → f k = nI (tu_g how w h w0 g k) ∧ e k = nI (tu_m how w h w0 m k)) → ex_W mX4_becomeTurned (d + 2) 0 0 (fun H' r => r = none ∧ ex_ch H H' [p, p + 1, p + 2] ∧ pi_is H' p w h (tu_g how w h w0 g) (tu_m how w h w0 m)) H2 48 [(0, .ref p), (1, .ref q), (2, .int (nI how)), (3, .int (nI sw)), (4, .int (nI 0))] [] (0 + 0) (0 + 0) := by
    refine nat_down (P := fun j => ∀ H2 : ex_H, ex_ch H H2 [p, p + 1, p + 2] → ∀ f e : Nat → Int32, pi_at H2 p w h f e → (∀ k, k < j * w → f k = nI (tu_g how w h w0 g k) ∧ e k = nI (tu_m how w h w0 m k)) → ex_W mX4_becomeTurned (d + 2) 0 0 (fun H' r => r = none ∧ ex_ch H H' [p, p + 1, p + 2] ∧ pi_is H' p w h (tu_g how w h w0 g) (tu_m how w h w0 m)) H2 48 [(0, .ref p), (1, .ref q), (2, .int (nI how)), (3, .int (nI sw)), (4, .int (nI j))] [] (0 + 0) (0 + 0)) h (fun j hj k => ?_) ?_
    · intro H2 hc2 f e hp2 hfe
      obtain ⟨hp21, hp22, hp23⟩ := id hp2
      refine ew_iload (M := mX4_becomeTurned) dX4_becomeTurned_48 rfl ?_
      refine ew_aload_n (M := mX4_becomeTurned) dX4_becomeTurned_50 rfl (Or.inr (Or.inl ⟨_, rfl⟩)) ?_
      refine ew_get (M := mX4_becomeTurned) dX4_becomeTurned_51 fX4_15 (by repeat (first | with_reducible assumption | refine ex_eq ?_ | refine ex_ne ?_ (by omega) | exact ex_lt (by with_reducible assumption) | rw [List.length_set] | assumption)) (by rfl) ?_
      refine ew_icmp_ge (M := mX4_becomeTurned) (tgt := 190) dX4_becomeTurned_54 rfl (fun h => absurd h (nI_ge hj (by omega))) (fun _ => ?_)
      refine ew_iconst (M := mX4_becomeTurned) dX4_becomeTurned_57 (v := nI 0) (by decide) ?_
      refine ew_istore (M := mX4_becomeTurned) dX4_becomeTurned_58 (by decide) rfl ?_
      refine ew_ls [(0, .ref p), (1, .ref q), (2, .int (nI how)), (3, .int (nI sw)), (4, .int (nI j)), (5, .int (nI 0))] ⟨rfl, rfl, rfl, rfl, rfl, rfl, trivial⟩ ?_
      refine nat_down (P := fun i => ∀ H2 : ex_H, ex_ch H H2 [p, p + 1, p + 2] → ∀ f e : Nat → Int32, pi_at H2 p w h f e → (∀ k, k < j * w + i → f k = nI (tu_g how w h w0 g k) ∧ e k = nI (tu_m how w h w0 m k)) → ex_W mX4_becomeTurned (d + 2) 0 0 (fun H' r => r = none ∧ ex_ch H H' [p, p + 1, p + 2] ∧ pi_is H' p w h (tu_g how w h w0 g) (tu_m how w h w0 m)) H2 60 [(0, .ref p), (1, .ref q), (2, .int (nI how)), (3, .int (nI sw)), (4, .int (nI j)), (5, .int (nI i))] [] (0 + 0) (0 + 0)) w (fun i hi k => ?_) ?_ H2 hc2 f e hp2 hfe
      · intro H2 hc2 f e hp2 hfe
        obtain ⟨hp21, hp22, hp23⟩ := id hp2
        have hq2 := hq.ch hc2 (by simp; omega) (by simp; omega) (by simp; omega)
        obtain ⟨-, gq, mq, ⟨hq21, hq22, hq23⟩, -⟩ := id hq2
        have hx : tu_x how w i j < w0 := by
          unfold tu_x; split at hw <;> split at hhh <;> (try split) <;> (try split) <;> omega
        have hy : tu_y how h i j < h0 := by
          unfold tu_y; split at hw <;> split at hhh <;> (try split) <;> (try split) <;> omega
        obtain ⟨ta, tb⟩ := tu_at (j := j) hi
        have hkk := pi_lt hx hy
        have hgm1 := hgm _ hkk
        rcases (show how = 0 ∨ how = 1 ∨ how = 2 ∨ how = 3 by omega) with rfl | rfl | rfl | rfl
        · obtain rfl : sw = 0 := by rw [hsw]; rfl
          have ex : tu_x 0 w i j = w - 1 - i := rfl
          have ey : tu_y 0 h i j = j := rfl
          rw [ex] at hx hkk hgm1
          rw [ey] at hy hkk hgm1
          refine ew_iload (M := mX4_becomeTurned) dX4_becomeTurned_60 rfl ?_
          refine ew_aload_n (M := mX4_becomeTurned) dX4_becomeTurned_62 rfl (Or.inr (Or.inl ⟨_, rfl⟩)) ?_
          refine ew_get (M := mX4_becomeTurned) dX4_becomeTurned_63 fX4_9 (by repeat (first | with_reducible assumption | refine ex_eq ?_ | refine ex_ne ?_ (by omega) | exact ex_lt (by with_reducible assumption) | rw [List.length_set] | assumption)) (by rfl) ?_
          refine ew_icmp_ge (M := mX4_becomeTurned) (tgt := 184) dX4_becomeTurned_66 rfl (fun h => absurd h (nI_ge hi (by omega))) (fun _ => ?_)
          refine ew_iload_n (M := mX4_becomeTurned) dX4_becomeTurned_69 rfl ?_
          refine ew_if_eq (M := mX4_becomeTurned) (tgt := 78) dX4_becomeTurned_70 rfl (fun _ => ?_) (fun h => absurd (by decide) h)
          refine ew_iload_n (M := mX4_becomeTurned) dX4_becomeTurned_78 rfl ?_
          refine ew_if_ne (M := mX4_becomeTurned) (tgt := 94) dX4_becomeTurned_79 rfl (fun h => absurd rfl h) (fun _ => ?_)
          refine ew_aload_n (M := mX4_becomeTurned) dX4_becomeTurned_82 rfl (Or.inr (Or.inl ⟨_, rfl⟩)) ?_
          refine ew_get (M := mX4_becomeTurned) dX4_becomeTurned_83 fX4_9 (by repeat (first | with_reducible assumption | refine ex_eq ?_ | refine ex_ne ?_ (by omega) | exact ex_lt (by with_reducible assumption) | rw [List.length_set] | assumption)) (by rfl) ?_
          refine ew_iconst (M := mX4_becomeTurned) dX4_becomeTurned_86 (v := nI 1) (by decide) ?_
          refine ew_isub (M := mX4_becomeTurned) dX4_becomeTurned_87 ?_
          refine ew_iload (M := mX4_becomeTurned) dX4_becomeTurned_88 rfl ?_
          refine ew_isub (M := mX4_becomeTurned) dX4_becomeTurned_90 ?_
          rw [pk_sub hz1, pk_sub (show i ≤ w - 1 by omega)]
          refine ew_goto (M := mX4_becomeTurned) (tgt := 96) dX4_becomeTurned_91 rfl ?_
          refine ew_istore (M := mX4_becomeTurned) dX4_becomeTurned_96 (by decide) rfl ?_
          refine ew_iload_n (M := mX4_becomeTurned) dX4_becomeTurned_98 rfl ?_
          refine ew_if_eq (M := mX4_becomeTurned) (tgt := 107) dX4_becomeTurned_99 rfl (fun _ => ?_) (fun h => absurd (by decide) h)
          refine ew_iload_n (M := mX4_becomeTurned) dX4_becomeTurned_107 rfl ?_
          refine ew_iconst (M := mX4_becomeTurned) dX4_becomeTurned_108 (v := nI 1) (by decide) ?_
          refine ew_icmp_ne (M := mX4_becomeTurned) (tgt := 124) dX4_becomeTurned_109 rfl (fun _ => ?_) (fun h => absurd h (by decide))
          refine ew_iload (M := mX4_becomeTurned) dX4_becomeTurned_124 rfl ?_
          refine ew_istore (M := mX4_becomeTurned) dX4_becomeTurned_126 (by decide) rfl ?_
          refine ew_aload_n (M := mX4_becomeTurned) dX4_becomeTurned_128 rfl (Or.inr (Or.inl ⟨_, rfl⟩)) ?_
          refine ew_iload (M := mX4_becomeTurned) dX4_becomeTurned_129 rfl ?_
          refine ew_iload (M := mX4_becomeTurned) dX4_becomeTurned_131 rfl ?_
          refine ew_callV (M := mX4_becomeTurned) dX4_becomeTurned_133 vX4_42 (by repeat (first | with_reducible assumption | refine ex_eq ?_ | refine ex_ne ?_ (by omega) | exact ex_lt (by with_reducible assumption) | rw [List.length_set] | assumption)) rfl (sp_greyOf hq2 hx hy) rfl (Nat.le_of_ble_eq_true rfl) ⟨Nat.le_refl _, Nat.le_refl _⟩ rfl (fun H133 r133 q133 => ?_)
          obtain ⟨rfl, rfl⟩ := q133
          refine ew_istore (M := mX4_becomeTurned) dX4_becomeTurned_136 (by decide) rfl ?_
          refine ew_aload_n (M := mX4_becomeTurned) dX4_becomeTurned_138 rfl (Or.inr (Or.inl ⟨_, rfl⟩)) ?_
          refine ew_iload (M := mX4_becomeTurned) dX4_becomeTurned_139 rfl ?_
          refine ew_iload (M := mX4_becomeTurned) dX4_becomeTurned_141 rfl ?_
          refine ew_iload_n (M := mX4_becomeTurned) dX4_becomeTurned_143 rfl ?_
          refine ew_iconst (M := mX4_becomeTurned) dX4_becomeTurned_144 (v := nI 3) (by decide) ?_
          refine ew_icmp_ne (M := mX4_becomeTurned) (tgt := 157) dX4_becomeTurned_145 rfl (fun _ => ?_) (fun h => absurd h (by decide))
          refine ew_iload (M := mX4_becomeTurned) dX4_becomeTurned_157 rfl ?_
          refine ew_callV (M := mX4_becomeTurned) dX4_becomeTurned_159 vX4_46 (by repeat (first | with_reducible assumption | refine ex_eq ?_ | refine ex_ne ?_ (by omega) | exact ex_lt (by with_reducible assumption) | rw [List.length_set] | assumption)) rfl (sp_setGrey0 hp2 hz hi hj) rfl (Nat.le_of_ble_eq_true rfl) ⟨Nat.le_refl _, Nat.le_refl _⟩ rfl (fun H159 r159 q159 => ?_)
          obtain ⟨rfl, rfl⟩ := q159
          refine ew_aload_n (M := mX4_becomeTurned) dX4_becomeTurned_162 rfl (Or.inr (Or.inl ⟨_, rfl⟩)) ?_
          refine ew_iload (M := mX4_becomeTurned) dX4_becomeTurned_163 rfl ?_
          refine ew_iload (M := mX4_becomeTurned) dX4_becomeTurned_165 rfl ?_
          refine ew_aload_n (M := mX4_becomeTurned) dX4_becomeTurned_167 rfl (Or.inr (Or.inl ⟨_, rfl⟩)) ?_
          refine ew_iload (M := mX4_becomeTurned) dX4_becomeTurned_168 rfl ?_
          refine ew_iload (M := mX4_becomeTurned) dX4_becomeTurned_170 rfl ?_
          refine ew_callV (M := mX4_becomeTurned) dX4_becomeTurned_172 vX4_50 (by repeat (first | with_reducible assumption | refine ex_eq ?_ | refine ex_ne ?_ (by omega) | exact ex_lt (by with_reducible assumption) | rw [List.length_set] | assumption)) rfl (sp_isMasked (hq2.ch (L := [p + 1]) (ex_ch.rf.set (by simp)) (by simp; omega) (by simp; omega) (by simp; omega)) hx hy) rfl (Nat.le_of_ble_eq_true rfl) ⟨Nat.le_refl _, Nat.le_refl _⟩ rfl (fun H172 r172 q172 => ?_)
          obtain ⟨rfl, rfl⟩ := q172
          refine ew_callV (M := mX4_becomeTurned) dX4_becomeTurned_175 vX4_53 (by repeat (first | with_reducible assumption | refine ex_eq ?_ | refine ex_ne ?_ (by omega) | exact ex_lt (by with_reducible assumption) | rw [List.length_set] | assumption)) rfl (sp_setMasked0 (p := p) (w := w) (h := h) (gs := upd f (j * w + i) _) (ms := e) ⟨(by repeat (first | with_reducible assumption | refine ex_eq ?_ | refine ex_ne ?_ (by omega) | exact ex_lt (by with_reducible assumption) | rw [List.length_set] | assumption)), (by repeat (first | with_reducible assumption | refine ex_eq ?_ | refine ex_ne ?_ (by omega) | exact ex_lt (by with_reducible assumption) | rw [List.length_set] | assumption)), (by repeat (first | with_reducible assumption | refine ex_eq ?_ | refine ex_ne ?_ (by omega) | exact ex_lt (by with_reducible assumption) | rw [List.length_set] | assumption))⟩ hz hi hj hgm1.2) rfl (Nat.le_of_ble_eq_true rfl) ⟨Nat.le_refl _, Nat.le_refl _⟩ rfl (fun H175 r175 q175 => ?_)
          obtain ⟨rfl, rfl⟩ := q175
          refine ew_iinc (M := mX4_becomeTurned) dX4_becomeTurned_178 rfl (ex_inc i) (by decide) rfl ?_
          refine ew_goto (M := mX4_becomeTurned) (tgt := 60) dX4_becomeTurned_181 rfl ?_
          refine ew_ls _ ?_ (k _ ((hc2.set (by simp)).set (by simp)) (upd f (j * w + i) (nI (tu_g 0 w h w0 g (j * w + i)))) (upd e (j * w + i) (nI (tu_m 0 w h w0 m (j * w + i)))) ?_ ?_)
          · exact ⟨rfl, rfl, rfl, rfl, rfl, rfl, trivial⟩
          · unfold tu_g tu_m
            rw [ta, tb, ex, ey]
            exact ⟨(by repeat (first | with_reducible assumption | refine ex_eq ?_ | refine ex_ne ?_ (by omega) | exact ex_lt (by with_reducible assumption) | rw [List.length_set] | assumption)), (by repeat (first | with_reducible assumption | refine ex_eq ?_ | refine ex_ne ?_ (by omega) | exact ex_lt (by with_reducible assumption) | rw [List.length_set] | assumption)), (by repeat (first | with_reducible assumption | refine ex_eq ?_ | refine ex_ne ?_ (by omega) | exact ex_lt (by with_reducible assumption) | rw [List.length_set] | assumption))⟩
          · intro k' hk'
            by_cases e' : k' = j * w + i
            · subst e'; simp only [upd, if_true]; exact ⟨trivial, trivial⟩
            · simp only [upd, if_neg e']; exact hfe k' (by omega)
        · obtain rfl : sw = 0 := by rw [hsw]; rfl
          have ex : tu_x 1 w i j = i := rfl
          have ey : tu_y 1 h i j = h - 1 - j := rfl
          rw [ex] at hx hkk hgm1
          rw [ey] at hy hkk hgm1
          refine ew_iload (M := mX4_becomeTurned) dX4_becomeTurned_60 rfl ?_
          refine ew_aload_n (M := mX4_becomeTurned) dX4_becomeTurned_62 rfl (Or.inr (Or.inl ⟨_, rfl⟩)) ?_
          refine ew_get (M := mX4_becomeTurned) dX4_becomeTurned_63 fX4_9 (by repeat (first | with_reducible assumption | refine ex_eq ?_ | refine ex_ne ?_ (by omega) | exact ex_lt (by with_reducible assumption) | rw [List.length_set] | assumption)) (by rfl) ?_
          refine ew_icmp_ge (M := mX4_becomeTurned) (tgt := 184) dX4_becomeTurned_66 rfl (fun h => absurd h (nI_ge hi (by omega))) (fun _ => ?_)
          refine ew_iload_n (M := mX4_becomeTurned) dX4_becomeTurned_69 rfl ?_
          refine ew_if_eq (M := mX4_becomeTurned) (tgt := 78) dX4_becomeTurned_70 rfl (fun _ => ?_) (fun h => absurd (by decide) h)
          refine ew_iload_n (M := mX4_becomeTurned) dX4_becomeTurned_78 rfl ?_
          refine ew_if_ne (M := mX4_becomeTurned) (tgt := 94) dX4_becomeTurned_79 rfl (fun _ => ?_) (fun h => absurd h (by decide))
          refine ew_iload (M := mX4_becomeTurned) dX4_becomeTurned_94 rfl ?_
          refine ew_istore (M := mX4_becomeTurned) dX4_becomeTurned_96 (by decide) rfl ?_
          refine ew_iload_n (M := mX4_becomeTurned) dX4_becomeTurned_98 rfl ?_
          refine ew_if_eq (M := mX4_becomeTurned) (tgt := 107) dX4_becomeTurned_99 rfl (fun _ => ?_) (fun h => absurd (by decide) h)
          refine ew_iload_n (M := mX4_becomeTurned) dX4_becomeTurned_107 rfl ?_
          refine ew_iconst (M := mX4_becomeTurned) dX4_becomeTurned_108 (v := nI 1) (by decide) ?_
          refine ew_icmp_ne (M := mX4_becomeTurned) (tgt := 124) dX4_becomeTurned_109 rfl (fun h => absurd rfl h) (fun _ => ?_)
          refine ew_aload_n (M := mX4_becomeTurned) dX4_becomeTurned_112 rfl (Or.inr (Or.inl ⟨_, rfl⟩)) ?_
          refine ew_get (M := mX4_becomeTurned) dX4_becomeTurned_113 fX4_15 (by repeat (first | with_reducible assumption | refine ex_eq ?_ | refine ex_ne ?_ (by omega) | exact ex_lt (by with_reducible assumption) | rw [List.length_set] | assumption)) (by rfl) ?_
          refine ew_iconst (M := mX4_becomeTurned) dX4_becomeTurned_116 (v := nI 1) (by decide) ?_
          refine ew_isub (M := mX4_becomeTurned) dX4_becomeTurned_117 ?_
          refine ew_iload (M := mX4_becomeTurned) dX4_becomeTurned_118 rfl ?_
          refine ew_isub (M := mX4_becomeTurned) dX4_becomeTurned_120 ?_
          rw [pk_sub hz3, pk_sub (show j ≤ h - 1 by omega)]
          refine ew_goto (M := mX4_becomeTurned) (tgt := 126) dX4_becomeTurned_121 rfl ?_
          refine ew_istore (M := mX4_becomeTurned) dX4_becomeTurned_126 (by decide) rfl ?_
          refine ew_aload_n (M := mX4_becomeTurned) dX4_becomeTurned_128 rfl (Or.inr (Or.inl ⟨_, rfl⟩)) ?_
          refine ew_iload (M := mX4_becomeTurned) dX4_becomeTurned_129 rfl ?_
          refine ew_iload (M := mX4_becomeTurned) dX4_becomeTurned_131 rfl ?_
          refine ew_callV (M := mX4_becomeTurned) dX4_becomeTurned_133 vX4_42 (by repeat (first | with_reducible assumption | refine ex_eq ?_ | refine ex_ne ?_ (by omega) | exact ex_lt (by with_reducible assumption) | rw [List.length_set] | assumption)) rfl (sp_greyOf hq2 hx hy) rfl (Nat.le_of_ble_eq_true rfl) ⟨Nat.le_refl _, Nat.le_refl _⟩ rfl (fun H133 r133 q133 => ?_)
          obtain ⟨rfl, rfl⟩ := q133
          refine ew_istore (M := mX4_becomeTurned) dX4_becomeTurned_136 (by decide) rfl ?_
          refine ew_aload_n (M := mX4_becomeTurned) dX4_becomeTurned_138 rfl (Or.inr (Or.inl ⟨_, rfl⟩)) ?_
          refine ew_iload (M := mX4_becomeTurned) dX4_becomeTurned_139 rfl ?_
          refine ew_iload (M := mX4_becomeTurned) dX4_becomeTurned_141 rfl ?_
          refine ew_iload_n (M := mX4_becomeTurned) dX4_becomeTurned_143 rfl ?_
          refine ew_iconst (M := mX4_becomeTurned) dX4_becomeTurned_144 (v := nI 3) (by decide) ?_
          refine ew_icmp_ne (M := mX4_becomeTurned) (tgt := 157) dX4_becomeTurned_145 rfl (fun _ => ?_) (fun h => absurd h (by decide))
          refine ew_iload (M := mX4_becomeTurned) dX4_becomeTurned_157 rfl ?_
          refine ew_callV (M := mX4_becomeTurned) dX4_becomeTurned_159 vX4_46 (by repeat (first | with_reducible assumption | refine ex_eq ?_ | refine ex_ne ?_ (by omega) | exact ex_lt (by with_reducible assumption) | rw [List.length_set] | assumption)) rfl (sp_setGrey0 hp2 hz hi hj) rfl (Nat.le_of_ble_eq_true rfl) ⟨Nat.le_refl _, Nat.le_refl _⟩ rfl (fun H159 r159 q159 => ?_)
          obtain ⟨rfl, rfl⟩ := q159
          refine ew_aload_n (M := mX4_becomeTurned) dX4_becomeTurned_162 rfl (Or.inr (Or.inl ⟨_, rfl⟩)) ?_
          refine ew_iload (M := mX4_becomeTurned) dX4_becomeTurned_163 rfl ?_
          refine ew_iload (M := mX4_becomeTurned) dX4_becomeTurned_165 rfl ?_
          refine ew_aload_n (M := mX4_becomeTurned) dX4_becomeTurned_167 rfl (Or.inr (Or.inl ⟨_, rfl⟩)) ?_
          refine ew_iload (M := mX4_becomeTurned) dX4_becomeTurned_168 rfl ?_
          refine ew_iload (M := mX4_becomeTurned) dX4_becomeTurned_170 rfl ?_
          refine ew_callV (M := mX4_becomeTurned) dX4_becomeTurned_172 vX4_50 (by repeat (first | with_reducible assumption | refine ex_eq ?_ | refine ex_ne ?_ (by omega) | exact ex_lt (by with_reducible assumption) | rw [List.length_set] | assumption)) rfl (sp_isMasked (hq2.ch (L := [p + 1]) (ex_ch.rf.set (by simp)) (by simp; omega) (by simp; omega) (by simp; omega)) hx hy) rfl (Nat.le_of_ble_eq_true rfl) ⟨Nat.le_refl _, Nat.le_refl _⟩ rfl (fun H172 r172 q172 => ?_)
          obtain ⟨rfl, rfl⟩ := q172
          refine ew_callV (M := mX4_becomeTurned) dX4_becomeTurned_175 vX4_53 (by repeat (first | with_reducible assumption | refine ex_eq ?_ | refine ex_ne ?_ (by omega) | exact ex_lt (by with_reducible assumption) | rw [List.length_set] | assumption)) rfl (sp_setMasked0 (p := p) (w := w) (h := h) (gs := upd f (j * w + i) _) (ms := e) ⟨(by repeat (first | with_reducible assumption | refine ex_eq ?_ | refine ex_ne ?_ (by omega) | exact ex_lt (by with_reducible assumption) | rw [List.length_set] | assumption)), (by repeat (first | with_reducible assumption | refine ex_eq ?_ | refine ex_ne ?_ (by omega) | exact ex_lt (by with_reducible assumption) | rw [List.length_set] | assumption)), (by repeat (first | with_reducible assumption | refine ex_eq ?_ | refine ex_ne ?_ (by omega) | exact ex_lt (by with_reducible assumption) | rw [List.length_set] | assumption))⟩ hz hi hj hgm1.2) rfl (Nat.le_of_ble_eq_true rfl) ⟨Nat.le_refl _, Nat.le_refl _⟩ rfl (fun H175 r175 q175 => ?_)
          obtain ⟨rfl, rfl⟩ := q175
          refine ew_iinc (M := mX4_becomeTurned) dX4_becomeTurned_178 rfl (ex_inc i) (by decide) rfl ?_
          refine ew_goto (M := mX4_becomeTurned) (tgt := 60) dX4_becomeTurned_181 rfl ?_
          refine ew_ls _ ?_ (k _ ((hc2.set (by simp)).set (by simp)) (upd f (j * w + i) (nI (tu_g 1 w h w0 g (j * w + i)))) (upd e (j * w + i) (nI (tu_m 1 w h w0 m (j * w + i)))) ?_ ?_)
          · exact ⟨rfl, rfl, rfl, rfl, rfl, rfl, trivial⟩
          · unfold tu_g tu_m
            rw [ta, tb, ex, ey]
            exact ⟨(by repeat (first | with_reducible assumption | refine ex_eq ?_ | refine ex_ne ?_ (by omega) | exact ex_lt (by with_reducible assumption) | rw [List.length_set] | assumption)), (by repeat (first | with_reducible assumption | refine ex_eq ?_ | refine ex_ne ?_ (by omega) | exact ex_lt (by with_reducible assumption) | rw [List.length_set] | assumption)), (by repeat (first | with_reducible assumption | refine ex_eq ?_ | refine ex_ne ?_ (by omega) | exact ex_lt (by with_reducible assumption) | rw [List.length_set] | assumption))⟩
          · intro k' hk'
            by_cases e' : k' = j * w + i
            · subst e'; simp only [upd, if_true]; exact ⟨trivial, trivial⟩
            · simp only [upd, if_neg e']; exact hfe k' (by omega)
        · obtain rfl : sw = 1 := by rw [hsw]; rfl
          have ex : tu_x 2 w i j = j := rfl
          have ey : tu_y 2 h i j = i := rfl
          rw [ex] at hx hkk hgm1
          rw [ey] at hy hkk hgm1
          refine ew_iload (M := mX4_becomeTurned) dX4_becomeTurned_60 rfl ?_
          refine ew_aload_n (M := mX4_becomeTurned) dX4_becomeTurned_62 rfl (Or.inr (Or.inl ⟨_, rfl⟩)) ?_
          refine ew_get (M := mX4_becomeTurned) dX4_becomeTurned_63 fX4_9 (by repeat (first | with_reducible assumption | refine ex_eq ?_ | refine ex_ne ?_ (by omega) | exact ex_lt (by with_reducible assumption) | rw [List.length_set] | assumption)) (by rfl) ?_
          refine ew_icmp_ge (M := mX4_becomeTurned) (tgt := 184) dX4_becomeTurned_66 rfl (fun h => absurd h (nI_ge hi (by omega))) (fun _ => ?_)
          refine ew_iload_n (M := mX4_becomeTurned) dX4_becomeTurned_69 rfl ?_
          refine ew_if_eq (M := mX4_becomeTurned) (tgt := 78) dX4_becomeTurned_70 rfl (fun h => absurd h (by decide)) (fun _ => ?_)
          refine ew_iload (M := mX4_becomeTurned) dX4_becomeTurned_73 rfl ?_
          refine ew_goto (M := mX4_becomeTurned) (tgt := 96) dX4_becomeTurned_75 rfl ?_
          refine ew_istore (M := mX4_becomeTurned) dX4_becomeTurned_96 (by decide) rfl ?_
          refine ew_iload_n (M := mX4_becomeTurned) dX4_becomeTurned_98 rfl ?_
          refine ew_if_eq (M := mX4_becomeTurned) (tgt := 107) dX4_becomeTurned_99 rfl (fun h => absurd h (by decide)) (fun _ => ?_)
          refine ew_iload (M := mX4_becomeTurned) dX4_becomeTurned_102 rfl ?_
          refine ew_goto (M := mX4_becomeTurned) (tgt := 126) dX4_becomeTurned_104 rfl ?_
          refine ew_istore (M := mX4_becomeTurned) dX4_becomeTurned_126 (by decide) rfl ?_
          refine ew_aload_n (M := mX4_becomeTurned) dX4_becomeTurned_128 rfl (Or.inr (Or.inl ⟨_, rfl⟩)) ?_
          refine ew_iload (M := mX4_becomeTurned) dX4_becomeTurned_129 rfl ?_
          refine ew_iload (M := mX4_becomeTurned) dX4_becomeTurned_131 rfl ?_
          refine ew_callV (M := mX4_becomeTurned) dX4_becomeTurned_133 vX4_42 (by repeat (first | with_reducible assumption | refine ex_eq ?_ | refine ex_ne ?_ (by omega) | exact ex_lt (by with_reducible assumption) | rw [List.length_set] | assumption)) rfl (sp_greyOf hq2 hx hy) rfl (Nat.le_of_ble_eq_true rfl) ⟨Nat.le_refl _, Nat.le_refl _⟩ rfl (fun H133 r133 q133 => ?_)
          obtain ⟨rfl, rfl⟩ := q133
          refine ew_istore (M := mX4_becomeTurned) dX4_becomeTurned_136 (by decide) rfl ?_
          refine ew_aload_n (M := mX4_becomeTurned) dX4_becomeTurned_138 rfl (Or.inr (Or.inl ⟨_, rfl⟩)) ?_
          refine ew_iload (M := mX4_becomeTurned) dX4_becomeTurned_139 rfl ?_
          refine ew_iload (M := mX4_becomeTurned) dX4_becomeTurned_141 rfl ?_
          refine ew_iload_n (M := mX4_becomeTurned) dX4_becomeTurned_143 rfl ?_
          refine ew_iconst (M := mX4_becomeTurned) dX4_becomeTurned_144 (v := nI 3) (by decide) ?_
          refine ew_icmp_ne (M := mX4_becomeTurned) (tgt := 157) dX4_becomeTurned_145 rfl (fun _ => ?_) (fun h => absurd h (by decide))
          refine ew_iload (M := mX4_becomeTurned) dX4_becomeTurned_157 rfl ?_
          refine ew_callV (M := mX4_becomeTurned) dX4_becomeTurned_159 vX4_46 (by repeat (first | with_reducible assumption | refine ex_eq ?_ | refine ex_ne ?_ (by omega) | exact ex_lt (by with_reducible assumption) | rw [List.length_set] | assumption)) rfl (sp_setGrey0 hp2 hz hi hj) rfl (Nat.le_of_ble_eq_true rfl) ⟨Nat.le_refl _, Nat.le_refl _⟩ rfl (fun H159 r159 q159 => ?_)
          obtain ⟨rfl, rfl⟩ := q159
          refine ew_aload_n (M := mX4_becomeTurned) dX4_becomeTurned_162 rfl (Or.inr (Or.inl ⟨_, rfl⟩)) ?_
          refine ew_iload (M := mX4_becomeTurned) dX4_becomeTurned_163 rfl ?_
          refine ew_iload (M := mX4_becomeTurned) dX4_becomeTurned_165 rfl ?_
          refine ew_aload_n (M := mX4_becomeTurned) dX4_becomeTurned_167 rfl (Or.inr (Or.inl ⟨_, rfl⟩)) ?_
          refine ew_iload (M := mX4_becomeTurned) dX4_becomeTurned_168 rfl ?_
          refine ew_iload (M := mX4_becomeTurned) dX4_becomeTurned_170 rfl ?_
          refine ew_callV (M := mX4_becomeTurned) dX4_becomeTurned_172 vX4_50 (by repeat (first | with_reducible assumption | refine ex_eq ?_ | refine ex_ne ?_ (by omega) | exact ex_lt (by with_reducible assumption) | rw [List.length_set] | assumption)) rfl (sp_isMasked (hq2.ch (L := [p + 1]) (ex_ch.rf.set (by simp)) (by simp; omega) (by simp; omega) (by simp; omega)) hx hy) rfl (Nat.le_of_ble_eq_true rfl) ⟨Nat.le_refl _, Nat.le_refl _⟩ rfl (fun H172 r172 q172 => ?_)
          obtain ⟨rfl, rfl⟩ := q172
          refine ew_callV (M := mX4_becomeTurned) dX4_becomeTurned_175 vX4_53 (by repeat (first | with_reducible assumption | refine ex_eq ?_ | refine ex_ne ?_ (by omega) | exact ex_lt (by with_reducible assumption) | rw [List.length_set] | assumption)) rfl (sp_setMasked0 (p := p) (w := w) (h := h) (gs := upd f (j * w + i) _) (ms := e) ⟨(by repeat (first | with_reducible assumption | refine ex_eq ?_ | refine ex_ne ?_ (by omega) | exact ex_lt (by with_reducible assumption) | rw [List.length_set] | assumption)), (by repeat (first | with_reducible assumption | refine ex_eq ?_ | refine ex_ne ?_ (by omega) | exact ex_lt (by with_reducible assumption) | rw [List.length_set] | assumption)), (by repeat (first | with_reducible assumption | refine ex_eq ?_ | refine ex_ne ?_ (by omega) | exact ex_lt (by with_reducible assumption) | rw [List.length_set] | assumption))⟩ hz hi hj hgm1.2) rfl (Nat.le_of_ble_eq_true rfl) ⟨Nat.le_refl _, Nat.le_refl _⟩ rfl (fun H175 r175 q175 => ?_)
          obtain ⟨rfl, rfl⟩ := q175
          refine ew_iinc (M := mX4_becomeTurned) dX4_becomeTurned_178 rfl (ex_inc i) (by decide) rfl ?_
          refine ew_goto (M := mX4_becomeTurned) (tgt := 60) dX4_becomeTurned_181 rfl ?_
          refine ew_ls _ ?_ (k _ ((hc2.set (by simp)).set (by simp)) (upd f (j * w + i) (nI (tu_g 2 w h w0 g (j * w + i)))) (upd e (j * w + i) (nI (tu_m 2 w h w0 m (j * w + i)))) ?_ ?_)
          · exact ⟨rfl, rfl, rfl, rfl, rfl, rfl, trivial⟩
          · unfold tu_g tu_m
            rw [ta, tb, ex, ey]
            exact ⟨(by repeat (first | with_reducible assumption | refine ex_eq ?_ | refine ex_ne ?_ (by omega) | exact ex_lt (by with_reducible assumption) | rw [List.length_set] | assumption)), (by repeat (first | with_reducible assumption | refine ex_eq ?_ | refine ex_ne ?_ (by omega) | exact ex_lt (by with_reducible assumption) | rw [List.length_set] | assumption)), (by repeat (first | with_reducible assumption | refine ex_eq ?_ | refine ex_ne ?_ (by omega) | exact ex_lt (by with_reducible assumption) | rw [List.length_set] | assumption))⟩
          · intro k' hk'
            by_cases e' : k' = j * w + i
            · subst e'; simp only [upd, if_true]; exact ⟨trivial, trivial⟩
            · simp only [upd, if_neg e']; exact hfe k' (by omega)
        · obtain rfl : sw = 0 := by rw [hsw]; rfl
          have ex : tu_x 3 w i j = i := rfl
          have ey : tu_y 3 h i j = j := rfl
          rw [ex] at hx hkk hgm1
          rw [ey] at hy hkk hgm1
          refine ew_iload (M := mX4_becomeTurned) dX4_becomeTurned_60 rfl ?_
          refine ew_aload_n (M := mX4_becomeTurned) dX4_becomeTurned_62 rfl (Or.inr (Or.inl ⟨_, rfl⟩)) ?_
          refine ew_get (M := mX4_becomeTurned) dX4_becomeTurned_63 fX4_9 (by repeat (first | with_reducible assumption | refine ex_eq ?_ | refine ex_ne ?_ (by omega) | exact ex_lt (by with_reducible assumption) | rw [List.length_set] | assumption)) (by rfl) ?_
          refine ew_icmp_ge (M := mX4_becomeTurned) (tgt := 184) dX4_becomeTurned_66 rfl (fun h => absurd h (nI_ge hi (by omega))) (fun _ => ?_)
          refine ew_iload_n (M := mX4_becomeTurned) dX4_becomeTurned_69 rfl ?_
          refine ew_if_eq (M := mX4_becomeTurned) (tgt := 78) dX4_becomeTurned_70 rfl (fun _ => ?_) (fun h => absurd (by decide) h)
          refine ew_iload_n (M := mX4_becomeTurned) dX4_becomeTurned_78 rfl ?_
          refine ew_if_ne (M := mX4_becomeTurned) (tgt := 94) dX4_becomeTurned_79 rfl (fun _ => ?_) (fun h => absurd h (by decide))
          refine ew_iload (M := mX4_becomeTurned) dX4_becomeTurned_94 rfl ?_
          refine ew_istore (M := mX4_becomeTurned) dX4_becomeTurned_96 (by decide) rfl ?_
          refine ew_iload_n (M := mX4_becomeTurned) dX4_becomeTurned_98 rfl ?_
          refine ew_if_eq (M := mX4_becomeTurned) (tgt := 107) dX4_becomeTurned_99 rfl (fun _ => ?_) (fun h => absurd (by decide) h)
          refine ew_iload_n (M := mX4_becomeTurned) dX4_becomeTurned_107 rfl ?_
          refine ew_iconst (M := mX4_becomeTurned) dX4_becomeTurned_108 (v := nI 1) (by decide) ?_
          refine ew_icmp_ne (M := mX4_becomeTurned) (tgt := 124) dX4_becomeTurned_109 rfl (fun _ => ?_) (fun h => absurd h (by decide))
          refine ew_iload (M := mX4_becomeTurned) dX4_becomeTurned_124 rfl ?_
          refine ew_istore (M := mX4_becomeTurned) dX4_becomeTurned_126 (by decide) rfl ?_
          refine ew_aload_n (M := mX4_becomeTurned) dX4_becomeTurned_128 rfl (Or.inr (Or.inl ⟨_, rfl⟩)) ?_
          refine ew_iload (M := mX4_becomeTurned) dX4_becomeTurned_129 rfl ?_
          refine ew_iload (M := mX4_becomeTurned) dX4_becomeTurned_131 rfl ?_
          refine ew_callV (M := mX4_becomeTurned) dX4_becomeTurned_133 vX4_42 (by repeat (first | with_reducible assumption | refine ex_eq ?_ | refine ex_ne ?_ (by omega) | exact ex_lt (by with_reducible assumption) | rw [List.length_set] | assumption)) rfl (sp_greyOf hq2 hx hy) rfl (Nat.le_of_ble_eq_true rfl) ⟨Nat.le_refl _, Nat.le_refl _⟩ rfl (fun H133 r133 q133 => ?_)
          obtain ⟨rfl, rfl⟩ := q133
          refine ew_istore (M := mX4_becomeTurned) dX4_becomeTurned_136 (by decide) rfl ?_
          refine ew_aload_n (M := mX4_becomeTurned) dX4_becomeTurned_138 rfl (Or.inr (Or.inl ⟨_, rfl⟩)) ?_
          refine ew_iload (M := mX4_becomeTurned) dX4_becomeTurned_139 rfl ?_
          refine ew_iload (M := mX4_becomeTurned) dX4_becomeTurned_141 rfl ?_
          refine ew_iload_n (M := mX4_becomeTurned) dX4_becomeTurned_143 rfl ?_
          refine ew_iconst (M := mX4_becomeTurned) dX4_becomeTurned_144 (v := nI 3) (by decide) ?_
          refine ew_icmp_ne (M := mX4_becomeTurned) (tgt := 157) dX4_becomeTurned_145 rfl (fun h => absurd rfl h) (fun _ => ?_)
          refine ew_sipush (M := mX4_becomeTurned) dX4_becomeTurned_148 (v := nI 255) (by decide) ?_
          refine ew_iload (M := mX4_becomeTurned) dX4_becomeTurned_151 rfl ?_
          refine ew_isub (M := mX4_becomeTurned) dX4_becomeTurned_153 ?_
          rw [pk_sub (show g (j * w0 + i) ≤ 255 by omega)]
          refine ew_goto (M := mX4_becomeTurned) (tgt := 159) dX4_becomeTurned_154 rfl ?_
          refine ew_callV (M := mX4_becomeTurned) dX4_becomeTurned_159 vX4_46 (by repeat (first | with_reducible assumption | refine ex_eq ?_ | refine ex_ne ?_ (by omega) | exact ex_lt (by with_reducible assumption) | rw [List.length_set] | assumption)) rfl (sp_setGrey0 hp2 hz hi hj) rfl (Nat.le_of_ble_eq_true rfl) ⟨Nat.le_refl _, Nat.le_refl _⟩ rfl (fun H159 r159 q159 => ?_)
          obtain ⟨rfl, rfl⟩ := q159
          refine ew_aload_n (M := mX4_becomeTurned) dX4_becomeTurned_162 rfl (Or.inr (Or.inl ⟨_, rfl⟩)) ?_
          refine ew_iload (M := mX4_becomeTurned) dX4_becomeTurned_163 rfl ?_
          refine ew_iload (M := mX4_becomeTurned) dX4_becomeTurned_165 rfl ?_
          refine ew_aload_n (M := mX4_becomeTurned) dX4_becomeTurned_167 rfl (Or.inr (Or.inl ⟨_, rfl⟩)) ?_
          refine ew_iload (M := mX4_becomeTurned) dX4_becomeTurned_168 rfl ?_
          refine ew_iload (M := mX4_becomeTurned) dX4_becomeTurned_170 rfl ?_
          refine ew_callV (M := mX4_becomeTurned) dX4_becomeTurned_172 vX4_50 (by repeat (first | with_reducible assumption | refine ex_eq ?_ | refine ex_ne ?_ (by omega) | exact ex_lt (by with_reducible assumption) | rw [List.length_set] | assumption)) rfl (sp_isMasked (hq2.ch (L := [p + 1]) (ex_ch.rf.set (by simp)) (by simp; omega) (by simp; omega) (by simp; omega)) hx hy) rfl (Nat.le_of_ble_eq_true rfl) ⟨Nat.le_refl _, Nat.le_refl _⟩ rfl (fun H172 r172 q172 => ?_)
          obtain ⟨rfl, rfl⟩ := q172
          refine ew_callV (M := mX4_becomeTurned) dX4_becomeTurned_175 vX4_53 (by repeat (first | with_reducible assumption | refine ex_eq ?_ | refine ex_ne ?_ (by omega) | exact ex_lt (by with_reducible assumption) | rw [List.length_set] | assumption)) rfl (sp_setMasked0 (p := p) (w := w) (h := h) (gs := upd f (j * w + i) _) (ms := e) ⟨(by repeat (first | with_reducible assumption | refine ex_eq ?_ | refine ex_ne ?_ (by omega) | exact ex_lt (by with_reducible assumption) | rw [List.length_set] | assumption)), (by repeat (first | with_reducible assumption | refine ex_eq ?_ | refine ex_ne ?_ (by omega) | exact ex_lt (by with_reducible assumption) | rw [List.length_set] | assumption)), (by repeat (first | with_reducible assumption | refine ex_eq ?_ | refine ex_ne ?_ (by omega) | exact ex_lt (by with_reducible assumption) | rw [List.length_set] | assumption))⟩ hz hi hj hgm1.2) rfl (Nat.le_of_ble_eq_true rfl) ⟨Nat.le_refl _, Nat.le_refl _⟩ rfl (fun H175 r175 q175 => ?_)
          obtain ⟨rfl, rfl⟩ := q175
          refine ew_iinc (M := mX4_becomeTurned) dX4_becomeTurned_178 rfl (ex_inc i) (by decide) rfl ?_
          refine ew_goto (M := mX4_becomeTurned) (tgt := 60) dX4_becomeTurned_181 rfl ?_
          refine ew_ls _ ?_ (k _ ((hc2.set (by simp)).set (by simp)) (upd f (j * w + i) (nI (tu_g 3 w h w0 g (j * w + i)))) (upd e (j * w + i) (nI (tu_m 3 w h w0 m (j * w + i)))) ?_ ?_)
          · exact ⟨rfl, rfl, rfl, rfl, rfl, rfl, trivial⟩
          · unfold tu_g tu_m
            rw [ta, tb, ex, ey, if_pos rfl]
            exact ⟨(by repeat (first | with_reducible assumption | refine ex_eq ?_ | refine ex_ne ?_ (by omega) | exact ex_lt (by with_reducible assumption) | rw [List.length_set] | assumption)), (by repeat (first | with_reducible assumption | refine ex_eq ?_ | refine ex_ne ?_ (by omega) | exact ex_lt (by with_reducible assumption) | rw [List.length_set] | assumption)), (by repeat (first | with_reducible assumption | refine ex_eq ?_ | refine ex_ne ?_ (by omega) | exact ex_lt (by with_reducible assumption) | rw [List.length_set] | assumption))⟩
          · intro k' hk'
            by_cases e' : k' = j * w + i
            · subst e'; simp only [upd, if_true]; exact ⟨trivial, trivial⟩
            · simp only [upd, if_neg e']; exact hfe k' (by omega)
      · intro H2 hc2 f e hp2 hfe
        obtain ⟨hp21, hp22, hp23⟩ := id hp2
        refine ew_iload (M := mX4_becomeTurned) dX4_becomeTurned_60 rfl ?_
        refine ew_aload_n (M := mX4_becomeTurned) dX4_becomeTurned_62 rfl (Or.inr (Or.inl ⟨_, rfl⟩)) ?_
        refine ew_get (M := mX4_becomeTurned) dX4_becomeTurned_63 fX4_9 (by repeat (first | with_reducible assumption | refine ex_eq ?_ | refine ex_ne ?_ (by omega) | exact ex_lt (by with_reducible assumption) | rw [List.length_set] | assumption)) (by rfl) ?_
        refine ew_icmp_ge (M := mX4_becomeTurned) (tgt := 184) dX4_becomeTurned_66 rfl (fun _ => ?_) (fun h => absurd (nI_le (Nat.le_refl _) (by omega)) h)
        refine ew_iinc (M := mX4_becomeTurned) dX4_becomeTurned_184 rfl (ex_inc j) (by decide) rfl ?_
        refine ew_goto (M := mX4_becomeTurned) (tgt := 48) dX4_becomeTurned_187 rfl ?_
        refine ew_ls _ ?_ (k H2 hc2 f e hp2 (fun k' hk' => hfe k' (by rw [Nat.succ_mul] at hk'; exact hk')))
        exact ⟨rfl, rfl, rfl, rfl, rfl, trivial⟩
    · intro H2 hc2 f e hp2 hfe
      obtain ⟨hp21, hp22, hp23⟩ := id hp2
      refine ew_iload (M := mX4_becomeTurned) dX4_becomeTurned_48 rfl ?_
      refine ew_aload_n (M := mX4_becomeTurned) dX4_becomeTurned_50 rfl (Or.inr (Or.inl ⟨_, rfl⟩)) ?_
      refine ew_get (M := mX4_becomeTurned) dX4_becomeTurned_51 fX4_15 (by repeat (first | with_reducible assumption | refine ex_eq ?_ | refine ex_ne ?_ (by omega) | exact ex_lt (by with_reducible assumption) | rw [List.length_set] | assumption)) (by rfl) ?_
      refine ew_icmp_ge (M := mX4_becomeTurned) (tgt := 190) dX4_becomeTurned_54 rfl (fun _ => ?_) (fun h => absurd (nI_le (Nat.le_refl _) (by omega)) h)
      refine ew_vret (M := mX4_becomeTurned) dX4_becomeTurned_190 rfl (Nat.le_refl _) (Nat.le_refl _) ?_
      refine ⟨rfl, hc2, ⟨hz, fun k hk => ?_⟩, f, e, hp2, fun k hk => hfe k (by rw [Nat.mul_comm]; exact hk)⟩
      obtain ⟨i, j, hi, hj, rfl⟩ := tu_split hk
      obtain ⟨ta, tb⟩ := tu_at (j := j) hi
      have hx : tu_x how w i j < w0 := by
        unfold tu_x; split at hw <;> split at hhh <;> (try split) <;> (try split) <;> omega
      have hy : tu_y how h i j < h0 := by
        unfold tu_y; split at hw <;> split at hhh <;> (try split) <;> (try split) <;> omega
      have hg1 := hgm _ (pi_lt hx hy)
      unfold tu_g tu_m
      rw [ta, tb]
      exact ⟨by split <;> omega, hg1.2⟩
  by_cases h2 : how = 2
  · subst h2
    simp only [if_true] at hw hhh
    subst hw hhh
    obtain rfl : sw = 1 := hsw
    refine ew_iload_n (M := mX4_becomeTurned) dX4_becomeTurned_0 rfl ?_
    refine ew_iconst (M := mX4_becomeTurned) dX4_becomeTurned_1 (v := nI 2) (by decide) ?_
    refine ew_icmp_ne (M := mX4_becomeTurned) (tgt := 9) dX4_becomeTurned_2 rfl (fun h => absurd rfl h) (fun _ => ?_)
    refine ew_iconst (M := mX4_becomeTurned) dX4_becomeTurned_5 (v := nI 1) (by decide) ?_
    refine ew_goto (M := mX4_becomeTurned) (tgt := 10) dX4_becomeTurned_6 rfl ?_
    refine ew_istore_n (M := mX4_becomeTurned) dX4_becomeTurned_10 (by decide) rfl ?_
    refine ew_aload_n (M := mX4_becomeTurned) dX4_becomeTurned_11 rfl (Or.inr (Or.inl ⟨_, rfl⟩)) ?_
    refine ew_iload_n (M := mX4_becomeTurned) dX4_becomeTurned_12 rfl ?_
    refine ew_if_eq (M := mX4_becomeTurned) (tgt := 23) dX4_becomeTurned_13 rfl (fun h => absurd h (by decide)) (fun _ => ?_)
    refine ew_aload_n (M := mX4_becomeTurned) dX4_becomeTurned_16 rfl (Or.inr (Or.inl ⟨_, rfl⟩)) ?_
    refine ew_get (M := mX4_becomeTurned) dX4_becomeTurned_17 fX4_15 (by repeat (first | with_reducible assumption | refine ex_eq ?_ | refine ex_ne ?_ (by omega) | exact ex_lt (by with_reducible assumption) | rw [List.length_set] | assumption)) (by rfl) ?_
    refine ew_goto (M := mX4_becomeTurned) (tgt := 27) dX4_becomeTurned_20 rfl ?_
    refine ew_iload_n (M := mX4_becomeTurned) dX4_becomeTurned_27 rfl ?_
    refine ew_if_eq (M := mX4_becomeTurned) (tgt := 38) dX4_becomeTurned_28 rfl (fun h => absurd h (by decide)) (fun _ => ?_)
    refine ew_aload_n (M := mX4_becomeTurned) dX4_becomeTurned_31 rfl (Or.inr (Or.inl ⟨_, rfl⟩)) ?_
    refine ew_get (M := mX4_becomeTurned) dX4_becomeTurned_32 fX4_9 (by repeat (first | with_reducible assumption | refine ex_eq ?_ | refine ex_ne ?_ (by omega) | exact ex_lt (by with_reducible assumption) | rw [List.length_set] | assumption)) (by rfl) ?_
    refine ew_goto (M := mX4_becomeTurned) (tgt := 42) dX4_becomeTurned_35 rfl ?_
    refine ew_callV (M := mX4_becomeTurned) dX4_becomeTurned_42 vX4_34 (by repeat (first | with_reducible assumption | refine ex_eq ?_ | refine ex_ne ?_ (by omega) | exact ex_lt (by with_reducible assumption) | rw [List.length_set] | assumption)) rfl (sp_setSize hp hz) rfl (Nat.le_of_ble_eq_true rfl) ⟨Nat.le_refl _, Nat.le_refl _⟩ rfl (fun H42 r42 q42 => ?_)
    obtain ⟨rfl, hc1, hp1⟩ := q42
    refine ew_iconst (M := mX4_becomeTurned) dX4_becomeTurned_45 (v := nI 0) (by decide) ?_
    refine ew_istore (M := mX4_becomeTurned) dX4_becomeTurned_46 (by decide) rfl ?_
    refine ew_ls _ ?_ (key _ (hc1.sub (by simp)) _ _ hp1 (fun k hk => absurd hk (by rw [Nat.zero_mul]; exact Nat.not_lt_zero k)))
    exact ⟨rfl, rfl, rfl, rfl, rfl, trivial⟩
  · simp only [if_neg h2] at hw hhh hsw
    subst hw hhh hsw
    refine ew_iload_n (M := mX4_becomeTurned) dX4_becomeTurned_0 rfl ?_
    refine ew_iconst (M := mX4_becomeTurned) dX4_becomeTurned_1 (v := nI 2) (by decide) ?_
    refine ew_icmp_ne (M := mX4_becomeTurned) (tgt := 9) dX4_becomeTurned_2 rfl (fun _ => ?_) (fun h => absurd h (fun e => h2 ((nI_eq (by omega) (by decide)).mp e)))
    refine ew_iconst (M := mX4_becomeTurned) dX4_becomeTurned_9 (v := nI 0) (by decide) ?_
    refine ew_istore_n (M := mX4_becomeTurned) dX4_becomeTurned_10 (by decide) rfl ?_
    refine ew_aload_n (M := mX4_becomeTurned) dX4_becomeTurned_11 rfl (Or.inr (Or.inl ⟨_, rfl⟩)) ?_
    refine ew_iload_n (M := mX4_becomeTurned) dX4_becomeTurned_12 rfl ?_
    refine ew_if_eq (M := mX4_becomeTurned) (tgt := 23) dX4_becomeTurned_13 rfl (fun _ => ?_) (fun h => absurd (by decide) h)
    refine ew_aload_n (M := mX4_becomeTurned) dX4_becomeTurned_23 rfl (Or.inr (Or.inl ⟨_, rfl⟩)) ?_
    refine ew_get (M := mX4_becomeTurned) dX4_becomeTurned_24 fX4_9 (by repeat (first | with_reducible assumption | refine ex_eq ?_ | refine ex_ne ?_ (by omega) | exact ex_lt (by with_reducible assumption) | rw [List.length_set] | assumption)) (by rfl) ?_
    refine ew_iload_n (M := mX4_becomeTurned) dX4_becomeTurned_27 rfl ?_
    refine ew_if_eq (M := mX4_becomeTurned) (tgt := 38) dX4_becomeTurned_28 rfl (fun _ => ?_) (fun h => absurd (by decide) h)
    refine ew_aload_n (M := mX4_becomeTurned) dX4_becomeTurned_38 rfl (Or.inr (Or.inl ⟨_, rfl⟩)) ?_
    refine ew_get (M := mX4_becomeTurned) dX4_becomeTurned_39 fX4_15 (by repeat (first | with_reducible assumption | refine ex_eq ?_ | refine ex_ne ?_ (by omega) | exact ex_lt (by with_reducible assumption) | rw [List.length_set] | assumption)) (by rfl) ?_
    refine ew_callV (M := mX4_becomeTurned) dX4_becomeTurned_42 vX4_34 (by repeat (first | with_reducible assumption | refine ex_eq ?_ | refine ex_ne ?_ (by omega) | exact ex_lt (by with_reducible assumption) | rw [List.length_set] | assumption)) rfl (sp_setSize hp hz) rfl (Nat.le_of_ble_eq_true rfl) ⟨Nat.le_refl _, Nat.le_refl _⟩ rfl (fun H42 r42 q42 => ?_)
    obtain ⟨rfl, hc1, hp1⟩ := q42
    refine ew_iconst (M := mX4_becomeTurned) dX4_becomeTurned_45 (v := nI 0) (by decide) ?_
    refine ew_istore (M := mX4_becomeTurned) dX4_becomeTurned_46 (by decide) rfl ?_
    refine ew_ls _ ?_ (key _ (hc1.sub (by simp)) _ _ hp1 (fun k hk => absurd hk (by rw [Nat.zero_mul]; exact Nat.not_lt_zero k)))
    exact ⟨rfl, rfl, rfl, rfl, rfl, trivial⟩
