noncomputable def cif {α : Type} (P : Prop) (a b : α) : α := @ite α P (Classical.propDecidable P) a b
theorem cif_y {α : Type} {P : Prop} {a b : α} (h : P) : cif P a b = a := @if_pos _ (Classical.propDecidable P) h α a b
theorem cif_n {α : Type} {P : Prop} {a b : α} (h : ¬ P) : cif P a b = b := @if_neg _ (Classical.propDecidable P) h α a b
def cL : List Nat := List.range 86
theorem cL_mem (k : Nat) : k ∈ cL ↔ k < 86 := List.mem_range
def s_hist (S : SS) (x : Nat × (Nat → PT)) : SS := (S.1, S.2.1, S.2.2.1, S.2.2.2.1, S.2.2.2.2.1, x, S.2.2.2.2.2.2)
def s_pic (S : SS) (P : PT) : SS := (S.1, S.2.1, (P, S.2.2.1.2), S.2.2.2)
def s_now (S : SS) (z : ST) : SS := (S.1, S.2.1, z, S.2.2.2)
def s_text (S : SS) (t : Nat × (Nat → Nat)) : SS := (t, S.2)
def s_fa (S : SS) (x : Int32) : SS := (S.1, x, S.2.2)
def s_book (S : SS) (b : Nat × (Nat → BV)) : SS := (S.1, S.2.1, S.2.2.1, S.2.2.2.1, S.2.2.2.2.1, S.2.2.2.2.2.1, b)
/-- ahead of a deed -/
def s_rem (S : SS) : SS := s_hist S (hcnt S.2.2.2.2.2.1.1, hpush S.2.2.2.2.2.1.1 S.2.2.2.2.2.1.2 S.2.2.1.1)
theorem cl_hist {H H' : ex_H} {S : SS} (hS : cl_is H S) {c : Nat} {hs : Nat → PT} (hc : ex_ch H H' hiL) (hh : hi_is H' c hs) : cl_is H' (s_hist S (c, hs)) := by
  obtain ⟨a1, ⟨pl, a2⟩, a3, ⟨fa, a4, a5, a6⟩, a7, a8, ⟨fk, a9, a10⟩, a11, a12, ⟨cw, a13⟩, a14, a15⟩ := id hS
  exact ⟨hc.at a1 (by simp [hiL_mem] <;> omega), ⟨pl, a2.ch hc (by simp [hiL_mem] <;> omega) (by simp [hiL_mem] <;> omega)⟩, a3.ch hc (by simp [hiL_mem] <;> (intros; omega)) (by simp [hiL_mem] <;> (intros; omega)), ⟨fa, hc.at a4 (by simp [hiL_mem] <;> omega), a5, a6⟩, a7.ch hc (by simp [hiL_mem] <;> (intros; omega)) (by simp [hiL_mem] <;> (intros; omega)), a8.ch hc (by simp [hiL_mem] <;> (intros; omega)) (by simp [hiL_mem] <;> (intros; omega)), ⟨fk, hc.at a9 (by simp [hiL_mem] <;> omega), a10⟩, hh, a12.ch hc (by simp [hiL_mem] <;> (intros; omega)), ⟨cw, a13.ch hc (by simp [hiL_mem] <;> omega) (by simp [hiL_mem] <;> omega) (by simp [hiL_mem] <;> omega)⟩, a14.ch hc (by simp [hiL_mem] <;> omega) (by simp [hiL_mem] <;> omega) (by simp [hiL_mem] <;> omega), a15.ch hc (by simp [hiL_mem] <;> omega) (by simp [hiL_mem] <;> omega) (by simp [hiL_mem] <;> omega)⟩
theorem cl_pic {H H' : ex_H} {S : SS} (hS : cl_is H S) {P : PT} (hc : ex_ch H H' [4, 5, 6, 77, 78, 79, 80, 81, 82, 83, 84, 85]) (hp : pis H' 4 P) (hw : ∃ c, wi_is H' 77 c) (h80 : pi_any H' 80) (h83 : pi_any H' 83) : cl_is H' (s_pic S P) := by
  obtain ⟨a1, ⟨pl, a2⟩, a3, ⟨fa, a4, a5, a6⟩, a7, a8, ⟨fk, a9, a10⟩, a11, a12, ⟨cw, a13⟩, a14, a15⟩ := id hS
  obtain ⟨b1, b2, b3, b4, b5⟩ := id a3
  obtain ⟨⟨bz, bgm⟩, bgs, bms, ⟨bp1, bp2, bp3⟩, bct⟩ := id b4
  obtain ⟨bz1, bz2, bz3, bz4⟩ := id bz
  exact ⟨hc.at a1 (by simp [hiL_mem] <;> omega), ⟨pl, a2.ch hc (by simp [hiL_mem] <;> omega) (by simp [hiL_mem] <;> omega)⟩, ⟨hc.at b1 (by simp), b2, b3, hp, b5.ch hc (by simp) (by simp) (by simp)⟩, ⟨fa, hc.at a4 (by simp [hiL_mem] <;> omega), a5, a6⟩, a7.ch hc (by simp [hiL_mem] <;> (intros; omega)) (by simp [hiL_mem] <;> (intros; omega)), a8.ch hc (by simp [hiL_mem] <;> (intros; omega)) (by simp [hiL_mem] <;> (intros; omega)), ⟨fk, hc.at a9 (by simp [hiL_mem] <;> omega), a10⟩, a11.ch hc (by simp [hiL_mem] <;> (intros; omega)), a12.ch hc (by simp [hiL_mem] <;> (intros; omega)), hw, h80, h83⟩
theorem cl_now {H H' : ex_H} {S : SS} (hS : cl_is H S) {z : ST} (hc : ex_ch H H' [3, 4, 5, 6, 7, 8]) (hz : st_is H' 3 z) : cl_is H' (s_now S z) := by
  obtain ⟨a1, ⟨pl, a2⟩, a3, ⟨fa, a4, a5, a6⟩, a7, a8, ⟨fk, a9, a10⟩, a11, a12, ⟨cw, a13⟩, a14, a15⟩ := id hS
  exact ⟨hc.at a1 (by simp [hiL_mem] <;> omega), ⟨pl, a2.ch hc (by simp [hiL_mem] <;> omega) (by simp [hiL_mem] <;> omega)⟩, hz, ⟨fa, hc.at a4 (by simp [hiL_mem] <;> omega), a5, a6⟩, a7.ch hc (by simp [hiL_mem] <;> (intros; omega)) (by simp [hiL_mem] <;> (intros; omega)), a8.ch hc (by simp [hiL_mem] <;> (intros; omega)) (by simp [hiL_mem] <;> (intros; omega)), ⟨fk, hc.at a9 (by simp [hiL_mem] <;> omega), a10⟩, a11.ch hc (by simp [hiL_mem] <;> (intros; omega)), a12.ch hc (by simp [hiL_mem] <;> (intros; omega)), ⟨cw, a13.ch hc (by simp [hiL_mem] <;> omega) (by simp [hiL_mem] <;> omega) (by simp [hiL_mem] <;> omega)⟩, a14.ch hc (by simp [hiL_mem] <;> omega) (by simp [hiL_mem] <;> omega) (by simp [hiL_mem] <;> omega), a15.ch hc (by simp [hiL_mem] <;> omega) (by simp [hiL_mem] <;> omega) (by simp [hiL_mem] <;> omega)⟩
theorem cl_text {H H' : ex_H} {S : SS} (hS : cl_is H S) {n : Nat} {t : Nat → Nat} {pl : Int32} (hc : ex_ch H H' [1, 2]) (ht : tx_is H' 1 n t pl) : cl_is H' (s_text S (n, t)) := by
  obtain ⟨a1, ⟨pl, a2⟩, a3, ⟨fa, a4, a5, a6⟩, a7, a8, ⟨fk, a9, a10⟩, a11, a12, ⟨cw, a13⟩, a14, a15⟩ := id hS
  exact ⟨hc.at a1 (by simp [hiL_mem] <;> omega), ⟨_, ht⟩, a3.ch hc (by simp [hiL_mem] <;> (intros; omega)) (by simp [hiL_mem] <;> (intros; omega)), ⟨fa, hc.at a4 (by simp [hiL_mem] <;> omega), a5, a6⟩, a7.ch hc (by simp [hiL_mem] <;> (intros; omega)) (by simp [hiL_mem] <;> (intros; omega)), a8.ch hc (by simp [hiL_mem] <;> (intros; omega)) (by simp [hiL_mem] <;> (intros; omega)), ⟨fk, hc.at a9 (by simp [hiL_mem] <;> omega), a10⟩, a11.ch hc (by simp [hiL_mem] <;> (intros; omega)), a12.ch hc (by simp [hiL_mem] <;> (intros; omega)), ⟨cw, a13.ch hc (by simp [hiL_mem] <;> omega) (by simp [hiL_mem] <;> omega) (by simp [hiL_mem] <;> omega)⟩, a14.ch hc (by simp [hiL_mem] <;> omega) (by simp [hiL_mem] <;> omega) (by simp [hiL_mem] <;> omega), a15.ch hc (by simp [hiL_mem] <;> omega) (by simp [hiL_mem] <;> omega) (by simp [hiL_mem] <;> omega)⟩
theorem cl_book {H H' : ex_H} {S : SS} (hS : cl_is H S) {n : Nat} {B : Nat → BV} (hc : ex_ch H H' [73, 74, 75, 76]) (ht : bk_is H' n B) : cl_is H' (s_book S (n, B)) := by
  obtain ⟨a1, ⟨pl, a2⟩, a3, ⟨fa, a4, a5, a6⟩, a7, a8, ⟨fk, a9, a10⟩, a11, a12, ⟨cw, a13⟩, a14, a15⟩ := id hS
  exact ⟨hc.at a1 (by simp [hiL_mem] <;> omega), ⟨pl, a2.ch hc (by simp [hiL_mem] <;> omega) (by simp [hiL_mem] <;> omega)⟩, a3.ch hc (by simp [hiL_mem] <;> (intros; omega)) (by simp [hiL_mem] <;> (intros; omega)), ⟨fa, hc.at a4 (by simp [hiL_mem] <;> omega), a5, a6⟩, a7.ch hc (by simp [hiL_mem] <;> (intros; omega)) (by simp [hiL_mem] <;> (intros; omega)), a8.ch hc (by simp [hiL_mem] <;> (intros; omega)) (by simp [hiL_mem] <;> (intros; omega)), ⟨fk, hc.at a9 (by simp [hiL_mem] <;> omega), a10⟩, a11.ch hc (by simp [hiL_mem] <;> (intros; omega)), ht, ⟨cw, a13.ch hc (by simp [hiL_mem] <;> omega) (by simp [hiL_mem] <;> omega) (by simp [hiL_mem] <;> omega)⟩, a14.ch hc (by simp [hiL_mem] <;> omega) (by simp [hiL_mem] <;> omega) (by simp [hiL_mem] <;> omega), a15.ch hc (by simp [hiL_mem] <;> omega) (by simp [hiL_mem] <;> omega) (by simp [hiL_mem] <;> omega)⟩
theorem cl_tmp {H H' : ex_H} {S : SS} (hS : cl_is H S) (hc : ex_ch H H' [77, 78, 79, 80, 81, 82, 83, 84, 85]) (hw : ∃ c, wi_is H' 77 c) (h80 : pi_any H' 80) (h83 : pi_any H' 83) : cl_is H' S := by
  obtain ⟨a1, ⟨pl, a2⟩, a3, ⟨fa, a4, a5, a6⟩, a7, a8, ⟨fk, a9, a10⟩, a11, a12, ⟨cw, a13⟩, a14, a15⟩ := id hS
  exact ⟨hc.at a1 (by simp [hiL_mem] <;> omega), ⟨pl, a2.ch hc (by simp [hiL_mem] <;> omega) (by simp [hiL_mem] <;> omega)⟩, a3.ch hc (by simp [hiL_mem] <;> (intros; omega)) (by simp [hiL_mem] <;> (intros; omega)), ⟨fa, hc.at a4 (by simp [hiL_mem] <;> omega), a5, a6⟩, a7.ch hc (by simp [hiL_mem] <;> (intros; omega)) (by simp [hiL_mem] <;> (intros; omega)), a8.ch hc (by simp [hiL_mem] <;> (intros; omega)) (by simp [hiL_mem] <;> (intros; omega)), ⟨fk, hc.at a9 (by simp [hiL_mem] <;> omega), a10⟩, a11.ch hc (by simp [hiL_mem] <;> (intros; omega)), a12.ch hc (by simp [hiL_mem] <;> (intros; omega)), hw, h80, h83⟩
theorem cl_far {H H' : ex_H} {S : SS} (hS : cl_is H S) {L : List Nat} (hc : ex_ch H H' L) (hL : ∀ k ∈ L, 86 ≤ k ∧ k < 98) : cl_is H' S := by
  obtain ⟨a1, ⟨pl, a2⟩, a3, ⟨fa, a4, a5, a6⟩, a7, a8, ⟨fk, a9, a10⟩, a11, a12, ⟨cw, a13⟩, a14, a15⟩ := id hS
  have hn : ∀ k, k < 86 → k ∉ L := fun k hk e => by have := hL k e; omega
  have h98 : ∀ k ∈ L, k < 98 := fun k hk => (hL k hk).2
  exact ⟨hc.at a1 (hn _ (by decide)), ⟨pl, a2.ch hc (hn _ (by decide)) (hn _ (by decide))⟩, a3.ch hc h98 (fun k hk => by have := hL k hk; omega), ⟨fa, hc.at a4 (hn _ (by decide)), a5, a6⟩, a7.ch hc h98 (fun k hk => by have := hL k hk; omega), a8.ch hc h98 (fun k hk => by have := hL k hk; omega), ⟨fk, hc.at a9 (hn _ (by decide)), a10⟩, a11.ch hc (fun k hk => by have := hL k hk; omega), a12.ch hc (fun k hk => by have := hL k hk; omega), ⟨cw, a13.ch hc (hn _ (by decide)) (hn _ (by decide)) (hn _ (by decide))⟩, a14.ch hc (hn _ (by decide)) (hn _ (by decide)) (hn _ (by decide)), a15.ch hc (hn _ (by decide)) (hn _ (by decide)) (hn _ (by decide))⟩
noncomputable def f_feed (S : SS) (x : Int32) : Int32 × SS := cif (nI 0 ≤ x ∧ x ≤ nI 255) (cif (S.1.1 < 180) (nI (S.1.1 + 1), s_text S (S.1.1 + 1, va_up S.1.2 S.1.1 x.toNatClampNeg)) (-1000000004, S)) (-1000000002, S)
theorem nI_of3 {x : Int32} {n : Nat} (hn : n < 2 ^ 31) (h : nI 0 ≤ x ∧ x ≤ nI n) : ∃ j, j ≤ n ∧ x = nI j := by
  rw [nI_0] at h
  obtain ⟨j, hj, rfl⟩ := nI_of (Int32.not_lt.mpr h.1)
  exact ⟨j, (nI_leI hj hn).mp h.2, rfl⟩
theorem cs_feed {d : Nat} {H : ex_H} {S : SS} (hS : cl_is H S) (x : Int32) : ex_Met mX9_feed (d + 2) 0 0 H [.ref 0, .int x] (fun H' r => r = some (.int (f_feed S x).1) ∧ ex_ch H H' cL ∧ cl_is H' (f_feed S x).2) := by
  obtain ⟨a1, ⟨pl, a2⟩, a3, ⟨fa, a4, a5, a6⟩, a7, a8, ⟨fk, a9, a10⟩, a11, a12, ⟨cw, a13⟩, a14, a15⟩ := id hS
  have a20 := a2.2.2.1
  refine ex_meth [(0, .ref 0), (1, .int x)] rfl rfl rfl (fun b => Nat.le_of_ble_eq_true rfl) ?_
  unfold f_feed
  by_cases hx : nI 0 ≤ x ∧ x ≤ nI 255
  · rw [cif_y hx]
    obtain ⟨j, hj, rfl⟩ := nI_of3 (by decide) hx
    by_cases hn : S.1.1 < 180
    · rw [cif_y hn, nI_clamp (by omega)]
      refine ew_iload_n (M := mX9_feed) dX9_feed_0 rfl ?_
      refine ew_iconst (M := mX9_feed) dX9_feed_1 (v := nI 0) (by decide) ?_
      refine ew_sipush (M := mX9_feed) dX9_feed_2 (v := nI 255) (by decide) ?_
      refine ew_callS (M := mX9_feed) dX9_feed_5 vX9_66 (sp_within_y hx.1 hx.2) rfl (Nat.le_of_ble_eq_true rfl) ⟨Nat.le_refl _, Nat.le_refl _⟩ rfl (fun H5 r5 q5 => ?_)
      obtain ⟨rfl, rfl⟩ := q5
      refine ew_if_ne (M := mX9_feed) (tgt := 14) dX9_feed_8 rfl (fun _ => ?_) (fun h => absurd h (by decide))
      refine ew_aload_n (M := mX9_feed) dX9_feed_14 rfl (Or.inr (Or.inl ⟨_, rfl⟩)) ?_
      refine ew_get (M := mX9_feed) dX9_feed_15 fX9_10 (by repeat (first | with_reducible assumption | refine ex_eq ?_ | refine ex_ne ?_ (by omega) | exact ex_lt (by with_reducible assumption) | rw [List.length_set] | assumption)) (by rfl) ?_
      refine ew_iload_n (M := mX9_feed) dX9_feed_18 rfl ?_
      refine ew_callV (M := mX9_feed) dX9_feed_19 vX9_71 (by repeat (first | with_reducible assumption | refine ex_eq ?_ | refine ex_ne ?_ (by omega) | exact ex_lt (by with_reducible assumption) | rw [List.length_set] | assumption)) rfl (sp_append a2 hn (by omega)) rfl (Nat.le_of_ble_eq_true rfl) ⟨Nat.le_refl _, Nat.le_refl _⟩ rfl (fun H19 r19 q19 => ?_)
      obtain ⟨rfl, hc1, ht1⟩ := q19
      refine ew_iret (M := mX9_feed) dX9_feed_22 rfl (by first | rfl | decide) (Nat.le_refl _) (Nat.le_refl _) ?_
      exact ⟨rfl, hc1.sub (fun k hk => Or.inl (by rw [cL_mem]; simp at hk; omega)), cl_text hS hc1 ht1⟩
    · rw [cif_n hn]
      have h180 : S.1.1 = 180 := by have := a2.1; omega
      refine ew_iload_n (M := mX9_feed) dX9_feed_0 rfl ?_
      refine ew_iconst (M := mX9_feed) dX9_feed_1 (v := nI 0) (by decide) ?_
      refine ew_sipush (M := mX9_feed) dX9_feed_2 (v := nI 255) (by decide) ?_
      refine ew_callS (M := mX9_feed) dX9_feed_5 vX9_66 (sp_within_y hx.1 hx.2) rfl (Nat.le_of_ble_eq_true rfl) ⟨Nat.le_refl _, Nat.le_refl _⟩ rfl (fun H5 r5 q5 => ?_)
      obtain ⟨rfl, rfl⟩ := q5
      refine ew_if_ne (M := mX9_feed) (tgt := 14) dX9_feed_8 rfl (fun _ => ?_) (fun h => absurd h (by decide))
      refine ew_aload_n (M := mX9_feed) dX9_feed_14 rfl (Or.inr (Or.inl ⟨_, rfl⟩)) ?_
      refine ew_get (M := mX9_feed) dX9_feed_15 fX9_10 (by repeat (first | with_reducible assumption | refine ex_eq ?_ | refine ex_ne ?_ (by omega) | exact ex_lt (by with_reducible assumption) | rw [List.length_set] | assumption)) (by rfl) ?_
      refine ew_iload_n (M := mX9_feed) dX9_feed_18 rfl ?_
      refine ew_callV (M := mX9_feed) dX9_feed_19 vX9_71 (by repeat (first | with_reducible assumption | refine ex_eq ?_ | refine ex_ne ?_ (by omega) | exact ex_lt (by with_reducible assumption) | rw [List.length_set] | assumption)) rfl (sp_append_f a2 h180) rfl (Nat.le_of_ble_eq_true rfl) ⟨Nat.le_refl _, Nat.le_refl _⟩ rfl (fun H19 r19 q19 => ?_)
      obtain ⟨rfl, rfl⟩ := q19
      refine ew_iret (M := mX9_feed) dX9_feed_22 rfl (by first | rfl | decide) (Nat.le_refl _) (Nat.le_refl _) ?_
      exact ⟨rfl, ex_ch.rf, hS⟩
  · rw [cif_n hx]
    refine ew_iload_n (M := mX9_feed) dX9_feed_0 rfl ?_
    refine ew_iconst (M := mX9_feed) dX9_feed_1 (v := nI 0) (by decide) ?_
    refine ew_sipush (M := mX9_feed) dX9_feed_2 (v := nI 255) (by decide) ?_
    refine ew_callS (M := mX9_feed) dX9_feed_5 vX9_66 (sp_within_n hx) rfl (Nat.le_of_ble_eq_true rfl) ⟨Nat.le_refl _, Nat.le_refl _⟩ rfl (fun H5 r5 q5 => ?_)
    obtain ⟨rfl, rfl⟩ := q5
    refine ew_if_ne (M := mX9_feed) (tgt := 14) dX9_feed_8 rfl (fun h => absurd rfl h) (fun _ => ?_)
    refine ew_ldc (M := mX9_feed) dX9_feed_11 kX9_70 ?_
    refine ew_iret (M := mX9_feed) dX9_feed_13 rfl (by first | rfl | decide) (Nat.le_refl _) (Nat.le_refl _) ?_
    exact ⟨rfl, ex_ch.rf, hS⟩
theorem cs_fault {d : Nat} {H : ex_H} {S : SS} (hS : cl_is H S) : ex_Met mX9_fault d 0 0 H [.ref 0] (fun H' r => r = some (.int ((S.2.1, S)).1) ∧ ex_ch H H' cL ∧ cl_is H' ((S.2.1, S)).2) := by
  obtain ⟨a1, ⟨pl, a2⟩, a3, ⟨fa, a4, a5, a6⟩, a7, a8, ⟨fk, a9, a10⟩, a11, a12, ⟨cw, a13⟩, a14, a15⟩ := id hS

  refine ex_meth [(0, .ref 0)] rfl rfl rfl (fun b => Nat.le_of_ble_eq_true rfl) ?_
  refine ew_aload_n (M := mX9_fault) dX9_fault_0 rfl (Or.inr (Or.inl ⟨_, rfl⟩)) ?_
  refine ew_get (M := mX9_fault) dX9_fault_1 fX9_62 (by repeat (first | with_reducible assumption | refine ex_eq ?_ | refine ex_ne ?_ (by omega) | exact ex_lt (by with_reducible assumption) | rw [List.length_set] | assumption)) (by rfl) ?_
  refine ew_iret (M := mX9_fault) dX9_fault_4 rfl (by first | rfl | decide) (Nat.le_refl _) (Nat.le_refl _) ?_
  exact ⟨rfl, ex_ch.rf, hS⟩
noncomputable def f_told (S : SS) (x : Int32) : Int32 × SS := (cif (x = nI 0) (nI S.2.2.1.1.1) (cif (x = nI 1) (nI S.2.2.1.1.2.1) (cif (x = nI 2) (nI (pm_masked S.2.2.1.1.1 S.2.2.1.1.2.1 S.2.2.1.1.2.2.2)) (cif (x = nI 3) (pm_least S.2.2.1.1.1 S.2.2.1.1.2.1 S.2.2.1.1.2.2.1 S.2.2.1.1.2.2.2) (cif (x = nI 4) (pm_most S.2.2.1.1.1 S.2.2.1.1.2.1 S.2.2.1.1.2.2.1 S.2.2.1.1.2.2.2) (cif (x = nI 5) (pm_sum S.2.2.1.1.1 S.2.2.1.1.2.1 S.2.2.1.1.2.2.1 S.2.2.1.1.2.2.2) (cif (x = nI 6) (nI S.1.1) (cif (x = nI 7) (nI S.2.2.1.2.1.1) (cif (x = nI 8) (nI S.2.2.1.2.2.1) (cif (x = nI 9) (nI S.2.2.2.2.2.2.1) (cif (x = nI 10) (ffw (fun k => bwr S.2.2.1.1 (S.2.2.2.2.2.2.2 k)) S.2.2.2.2.2.2.1 0) (cif (x = nI 11) (nI S.2.2.2.2.2.1.1) (-1000000002)))))))))))), S)
theorem told_out {x : Int32} (h : ∀ k, k < 12 → ¬ x = nI k) : x.toInt < 0 ∨ 11 < x.toInt := by
  by_cases h0 : x < 0
  · left; exact Int32.lt_iff_toInt_lt.mp h0
  · obtain ⟨j, hj, rfl⟩ := nI_of h0
    right
    rw [nI_toInt hj]
    have : ¬ j < 12 := fun q => h j q rfl
    omega
theorem cs_told {d : Nat} {H : ex_H} {S : SS} (hS : cl_is H S) (x : Int32) : ex_Met mX9_told (d + 3) 0 0 H [.ref 0, .int x] (fun H' r => r = some (.int (f_told S x).1) ∧ ex_ch H H' cL ∧ cl_is H' (f_told S x).2) := by
  obtain ⟨a1, ⟨pl, a2⟩, a3, ⟨fa, a4, a5, a6⟩, a7, a8, ⟨fk, a9, a10⟩, a11, a12, ⟨cw, a13⟩, a14, a15⟩ := id hS
  obtain ⟨b1, b2, b3, b4, b5⟩ := id a3
  obtain ⟨⟨bz, bgm⟩, bgs, bms, ⟨bp1, bp2, bp3⟩, bct⟩ := id b4
  obtain ⟨bz1, bz2, bz3, bz4⟩ := id bz
  have a20 := a2.2.2.1
  obtain ⟨b51, b52, b53⟩ := id b5
  obtain ⟨-, -, -, old, -, a111, -⟩ := id a11
  obtain ⟨-, -, a121, -⟩ := id a12
  refine ex_meth [(0, .ref 0), (1, .int x)] rfl rfl rfl (fun b => Nat.le_of_ble_eq_true rfl) ?_
  unfold f_told
  by_cases q0 : x = nI 0
  · rw [cif_y q0]
    subst q0
    refine ew_iload_n (M := mX9_told) dX9_told_0 rfl ?_
    refine ew_tableIn (M := mX9_told) (tgt := 64) (off := 63) dX9_told_1 (by decide) (by decide) (by decide) rfl ?_
    refine ew_aload_n (M := mX9_told) dX9_told_64 rfl (Or.inr (Or.inl ⟨_, rfl⟩)) ?_
    refine ew_get (M := mX9_told) dX9_told_65 fX9_19 (by repeat (first | with_reducible assumption | refine ex_eq ?_ | refine ex_ne ?_ (by omega) | exact ex_lt (by with_reducible assumption) | rw [List.length_set] | assumption)) (by rfl) ?_
    refine ew_get (M := mX9_told) dX9_told_68 fX9_86 (by repeat (first | with_reducible assumption | refine ex_eq ?_ | refine ex_ne ?_ (by omega) | exact ex_lt (by with_reducible assumption) | rw [List.length_set] | assumption)) (by rfl) ?_
    refine ew_get (M := mX9_told) dX9_told_71 fX9_99 (by repeat (first | with_reducible assumption | refine ex_eq ?_ | refine ex_ne ?_ (by omega) | exact ex_lt (by with_reducible assumption) | rw [List.length_set] | assumption)) (by rfl) ?_
    refine ew_iret (M := mX9_told) dX9_told_74 rfl (by first | rfl | decide) (Nat.le_refl _) (Nat.le_refl _) ?_
    exact ⟨rfl, ex_ch.rf, hS⟩
  · skip
    by_cases q1 : x = nI 1
    · rw [cif_n q0, cif_y q1]
      subst q1
      refine ew_iload_n (M := mX9_told) dX9_told_0 rfl ?_
      refine ew_tableIn (M := mX9_told) (tgt := 75) (off := 74) dX9_told_1 (by decide) (by decide) (by decide) rfl ?_
      refine ew_aload_n (M := mX9_told) dX9_told_75 rfl (Or.inr (Or.inl ⟨_, rfl⟩)) ?_
      refine ew_get (M := mX9_told) dX9_told_76 fX9_19 (by repeat (first | with_reducible assumption | refine ex_eq ?_ | refine ex_ne ?_ (by omega) | exact ex_lt (by with_reducible assumption) | rw [List.length_set] | assumption)) (by rfl) ?_
      refine ew_get (M := mX9_told) dX9_told_79 fX9_86 (by repeat (first | with_reducible assumption | refine ex_eq ?_ | refine ex_ne ?_ (by omega) | exact ex_lt (by with_reducible assumption) | rw [List.length_set] | assumption)) (by rfl) ?_
      refine ew_get (M := mX9_told) dX9_told_82 fX9_102 (by repeat (first | with_reducible assumption | refine ex_eq ?_ | refine ex_ne ?_ (by omega) | exact ex_lt (by with_reducible assumption) | rw [List.length_set] | assumption)) (by rfl) ?_
      refine ew_iret (M := mX9_told) dX9_told_85 rfl (by first | rfl | decide) (Nat.le_refl _) (Nat.le_refl _) ?_
      exact ⟨rfl, ex_ch.rf, hS⟩
    · skip
      by_cases q2 : x = nI 2
      · rw [cif_n q0, cif_n q1, cif_y q2]
        subst q2
        refine ew_iload_n (M := mX9_told) dX9_told_0 rfl ?_
        refine ew_tableIn (M := mX9_told) (tgt := 86) (off := 85) dX9_told_1 (by decide) (by decide) (by decide) rfl ?_
        refine ew_aload_n (M := mX9_told) dX9_told_86 rfl (Or.inr (Or.inl ⟨_, rfl⟩)) ?_
        refine ew_get (M := mX9_told) dX9_told_87 fX9_19 (by repeat (first | with_reducible assumption | refine ex_eq ?_ | refine ex_ne ?_ (by omega) | exact ex_lt (by with_reducible assumption) | rw [List.length_set] | assumption)) (by rfl) ?_
        refine ew_get (M := mX9_told) dX9_told_90 fX9_86 (by repeat (first | with_reducible assumption | refine ex_eq ?_ | refine ex_ne ?_ (by omega) | exact ex_lt (by with_reducible assumption) | rw [List.length_set] | assumption)) (by rfl) ?_
        refine ew_callV (M := mX9_told) dX9_told_93 vX9_105 (by repeat (first | with_reducible assumption | refine ex_eq ?_ | refine ex_ne ?_ (by omega) | exact ex_lt (by with_reducible assumption) | rw [List.length_set] | assumption)) rfl (sp_maskedDots b4) rfl (Nat.le_of_ble_eq_true rfl) ⟨Nat.le_refl _, Nat.le_refl _⟩ rfl (fun H93 r93 q93 => ?_)
        obtain ⟨rfl, rfl⟩ := q93
        refine ew_iret (M := mX9_told) dX9_told_96 rfl (by first | rfl | decide) (Nat.le_refl _) (Nat.le_refl _) ?_
        exact ⟨rfl, ex_ch.rf, hS⟩
      · skip
        by_cases q3 : x = nI 3
        · rw [cif_n q0, cif_n q1, cif_n q2, cif_y q3]
          subst q3
          refine ew_iload_n (M := mX9_told) dX9_told_0 rfl ?_
          refine ew_tableIn (M := mX9_told) (tgt := 97) (off := 96) dX9_told_1 (by decide) (by decide) (by decide) rfl ?_
          refine ew_aload_n (M := mX9_told) dX9_told_97 rfl (Or.inr (Or.inl ⟨_, rfl⟩)) ?_
          refine ew_get (M := mX9_told) dX9_told_98 fX9_19 (by repeat (first | with_reducible assumption | refine ex_eq ?_ | refine ex_ne ?_ (by omega) | exact ex_lt (by with_reducible assumption) | rw [List.length_set] | assumption)) (by rfl) ?_
          refine ew_get (M := mX9_told) dX9_told_101 fX9_86 (by repeat (first | with_reducible assumption | refine ex_eq ?_ | refine ex_ne ?_ (by omega) | exact ex_lt (by with_reducible assumption) | rw [List.length_set] | assumption)) (by rfl) ?_
          refine ew_callV (M := mX9_told) dX9_told_104 vX9_108 (by repeat (first | with_reducible assumption | refine ex_eq ?_ | refine ex_ne ?_ (by omega) | exact ex_lt (by with_reducible assumption) | rw [List.length_set] | assumption)) rfl (sp_leastGrey b4) rfl (Nat.le_of_ble_eq_true rfl) ⟨Nat.le_refl _, Nat.le_refl _⟩ rfl (fun H104 r104 q104 => ?_)
          obtain ⟨rfl, rfl⟩ := q104
          refine ew_iret (M := mX9_told) dX9_told_107 rfl (by first | rfl | decide) (Nat.le_refl _) (Nat.le_refl _) ?_
          exact ⟨rfl, ex_ch.rf, hS⟩
        · skip
          by_cases q4 : x = nI 4
          · rw [cif_n q0, cif_n q1, cif_n q2, cif_n q3, cif_y q4]
            subst q4
            refine ew_iload_n (M := mX9_told) dX9_told_0 rfl ?_
            refine ew_tableIn (M := mX9_told) (tgt := 108) (off := 107) dX9_told_1 (by decide) (by decide) (by decide) rfl ?_
            refine ew_aload_n (M := mX9_told) dX9_told_108 rfl (Or.inr (Or.inl ⟨_, rfl⟩)) ?_
            refine ew_get (M := mX9_told) dX9_told_109 fX9_19 (by repeat (first | with_reducible assumption | refine ex_eq ?_ | refine ex_ne ?_ (by omega) | exact ex_lt (by with_reducible assumption) | rw [List.length_set] | assumption)) (by rfl) ?_
            refine ew_get (M := mX9_told) dX9_told_112 fX9_86 (by repeat (first | with_reducible assumption | refine ex_eq ?_ | refine ex_ne ?_ (by omega) | exact ex_lt (by with_reducible assumption) | rw [List.length_set] | assumption)) (by rfl) ?_
            refine ew_callV (M := mX9_told) dX9_told_115 vX9_111 (by repeat (first | with_reducible assumption | refine ex_eq ?_ | refine ex_ne ?_ (by omega) | exact ex_lt (by with_reducible assumption) | rw [List.length_set] | assumption)) rfl (sp_greatestGrey b4) rfl (Nat.le_of_ble_eq_true rfl) ⟨Nat.le_refl _, Nat.le_refl _⟩ rfl (fun H115 r115 q115 => ?_)
            obtain ⟨rfl, rfl⟩ := q115
            refine ew_iret (M := mX9_told) dX9_told_118 rfl (by first | rfl | decide) (Nat.le_refl _) (Nat.le_refl _) ?_
            exact ⟨rfl, ex_ch.rf, hS⟩
          · skip
            by_cases q5 : x = nI 5
            · rw [cif_n q0, cif_n q1, cif_n q2, cif_n q3, cif_n q4, cif_y q5]
              subst q5
              refine ew_iload_n (M := mX9_told) dX9_told_0 rfl ?_
              refine ew_tableIn (M := mX9_told) (tgt := 119) (off := 118) dX9_told_1 (by decide) (by decide) (by decide) rfl ?_
              refine ew_aload_n (M := mX9_told) dX9_told_119 rfl (Or.inr (Or.inl ⟨_, rfl⟩)) ?_
              refine ew_get (M := mX9_told) dX9_told_120 fX9_19 (by repeat (first | with_reducible assumption | refine ex_eq ?_ | refine ex_ne ?_ (by omega) | exact ex_lt (by with_reducible assumption) | rw [List.length_set] | assumption)) (by rfl) ?_
              refine ew_get (M := mX9_told) dX9_told_123 fX9_86 (by repeat (first | with_reducible assumption | refine ex_eq ?_ | refine ex_ne ?_ (by omega) | exact ex_lt (by with_reducible assumption) | rw [List.length_set] | assumption)) (by rfl) ?_
              refine ew_callV (M := mX9_told) dX9_told_126 vX9_114 (by repeat (first | with_reducible assumption | refine ex_eq ?_ | refine ex_ne ?_ (by omega) | exact ex_lt (by with_reducible assumption) | rw [List.length_set] | assumption)) rfl (sp_greysTogether b4) rfl (Nat.le_of_ble_eq_true rfl) ⟨Nat.le_refl _, Nat.le_refl _⟩ rfl (fun H126 r126 q126 => ?_)
              obtain ⟨rfl, rfl⟩ := q126
              refine ew_iret (M := mX9_told) dX9_told_129 rfl (by first | rfl | decide) (Nat.le_refl _) (Nat.le_refl _) ?_
              exact ⟨rfl, ex_ch.rf, hS⟩
            · skip
              by_cases q6 : x = nI 6
              · rw [cif_n q0, cif_n q1, cif_n q2, cif_n q3, cif_n q4, cif_n q5, cif_y q6]
                subst q6
                refine ew_iload_n (M := mX9_told) dX9_told_0 rfl ?_
                refine ew_tableIn (M := mX9_told) (tgt := 130) (off := 129) dX9_told_1 (by decide) (by decide) (by decide) rfl ?_
                refine ew_aload_n (M := mX9_told) dX9_told_130 rfl (Or.inr (Or.inl ⟨_, rfl⟩)) ?_
                refine ew_get (M := mX9_told) dX9_told_131 fX9_10 (by repeat (first | with_reducible assumption | refine ex_eq ?_ | refine ex_ne ?_ (by omega) | exact ex_lt (by with_reducible assumption) | rw [List.length_set] | assumption)) (by rfl) ?_
                refine ew_get (M := mX9_told) dX9_told_134 fX9_117 (by repeat (first | with_reducible assumption | refine ex_eq ?_ | refine ex_ne ?_ (by omega) | exact ex_lt (by with_reducible assumption) | rw [List.length_set] | assumption)) (by rfl) ?_
                refine ew_iret (M := mX9_told) dX9_told_137 rfl (by first | rfl | decide) (Nat.le_refl _) (Nat.le_refl _) ?_
                exact ⟨rfl, ex_ch.rf, hS⟩
              · skip
                by_cases q7 : x = nI 7
                · rw [cif_n q0, cif_n q1, cif_n q2, cif_n q3, cif_n q4, cif_n q5, cif_n q6, cif_y q7]
                  subst q7
                  refine ew_iload_n (M := mX9_told) dX9_told_0 rfl ?_
                  refine ew_tableIn (M := mX9_told) (tgt := 138) (off := 137) dX9_told_1 (by decide) (by decide) (by decide) rfl ?_
                  refine ew_aload_n (M := mX9_told) dX9_told_138 rfl (Or.inr (Or.inl ⟨_, rfl⟩)) ?_
                  refine ew_get (M := mX9_told) dX9_told_139 fX9_19 (by repeat (first | with_reducible assumption | refine ex_eq ?_ | refine ex_ne ?_ (by omega) | exact ex_lt (by with_reducible assumption) | rw [List.length_set] | assumption)) (by rfl) ?_
                  refine ew_get (M := mX9_told) dX9_told_142 fX9_120 (by repeat (first | with_reducible assumption | refine ex_eq ?_ | refine ex_ne ?_ (by omega) | exact ex_lt (by with_reducible assumption) | rw [List.length_set] | assumption)) (by rfl) ?_
                  refine ew_get (M := mX9_told) dX9_told_145 fX9_124 (by repeat (first | with_reducible assumption | refine ex_eq ?_ | refine ex_ne ?_ (by omega) | exact ex_lt (by with_reducible assumption) | rw [List.length_set] | assumption)) (by rfl) ?_
                  refine ew_iret (M := mX9_told) dX9_told_148 rfl (by first | rfl | decide) (Nat.le_refl _) (Nat.le_refl _) ?_
                  exact ⟨rfl, ex_ch.rf, hS⟩
                · skip
                  by_cases q8 : x = nI 8
                  · rw [cif_n q0, cif_n q1, cif_n q2, cif_n q3, cif_n q4, cif_n q5, cif_n q6, cif_n q7, cif_y q8]
                    subst q8
                    refine ew_iload_n (M := mX9_told) dX9_told_0 rfl ?_
                    refine ew_tableIn (M := mX9_told) (tgt := 149) (off := 148) dX9_told_1 (by decide) (by decide) (by decide) rfl ?_
                    refine ew_aload_n (M := mX9_told) dX9_told_149 rfl (Or.inr (Or.inl ⟨_, rfl⟩)) ?_
                    refine ew_get (M := mX9_told) dX9_told_150 fX9_19 (by repeat (first | with_reducible assumption | refine ex_eq ?_ | refine ex_ne ?_ (by omega) | exact ex_lt (by with_reducible assumption) | rw [List.length_set] | assumption)) (by rfl) ?_
                    refine ew_get (M := mX9_told) dX9_told_153 fX9_129 (by repeat (first | with_reducible assumption | refine ex_eq ?_ | refine ex_ne ?_ (by omega) | exact ex_lt (by with_reducible assumption) | rw [List.length_set] | assumption)) (by rfl) ?_
                    refine ew_iret (M := mX9_told) dX9_told_156 rfl (by first | rfl | decide) (Nat.le_refl _) (Nat.le_refl _) ?_
                    exact ⟨rfl, ex_ch.rf, hS⟩
                  · skip
                    by_cases q9 : x = nI 9
                    · rw [cif_n q0, cif_n q1, cif_n q2, cif_n q3, cif_n q4, cif_n q5, cif_n q6, cif_n q7, cif_n q8, cif_y q9]
                      subst q9
                      refine ew_iload_n (M := mX9_told) dX9_told_0 rfl ?_
                      refine ew_tableIn (M := mX9_told) (tgt := 157) (off := 156) dX9_told_1 (by decide) (by decide) (by decide) rfl ?_
                      refine ew_aload_n (M := mX9_told) dX9_told_157 rfl (Or.inr (Or.inl ⟨_, rfl⟩)) ?_
                      refine ew_get (M := mX9_told) dX9_told_158 fX9_41 (by repeat (first | with_reducible assumption | refine ex_eq ?_ | refine ex_ne ?_ (by omega) | exact ex_lt (by with_reducible assumption) | rw [List.length_set] | assumption)) (by rfl) ?_
                      refine ew_get (M := mX9_told) dX9_told_161 fX9_132 (by repeat (first | with_reducible assumption | refine ex_eq ?_ | refine ex_ne ?_ (by omega) | exact ex_lt (by with_reducible assumption) | rw [List.length_set] | assumption)) (by rfl) ?_
                      refine ew_iret (M := mX9_told) dX9_told_164 rfl (by first | rfl | decide) (Nat.le_refl _) (Nat.le_refl _) ?_
                      exact ⟨rfl, ex_ch.rf, hS⟩
                    · skip
                      by_cases q10 : x = nI 10
                      · rw [cif_n q0, cif_n q1, cif_n q2, cif_n q3, cif_n q4, cif_n q5, cif_n q6, cif_n q7, cif_n q8, cif_n q9, cif_y q10]
                        subst q10
                        refine ew_iload_n (M := mX9_told) dX9_told_0 rfl ?_
                        refine ew_tableIn (M := mX9_told) (tgt := 165) (off := 164) dX9_told_1 (by decide) (by decide) (by decide) rfl ?_
                        refine ew_aload_n (M := mX9_told) dX9_told_165 rfl (Or.inr (Or.inl ⟨_, rfl⟩)) ?_
                        refine ew_get (M := mX9_told) dX9_told_166 fX9_41 (by repeat (first | with_reducible assumption | refine ex_eq ?_ | refine ex_ne ?_ (by omega) | exact ex_lt (by with_reducible assumption) | rw [List.length_set] | assumption)) (by rfl) ?_
                        refine ew_aload_n (M := mX9_told) dX9_told_169 rfl (Or.inr (Or.inl ⟨_, rfl⟩)) ?_
                        refine ew_get (M := mX9_told) dX9_told_170 fX9_19 (by repeat (first | with_reducible assumption | refine ex_eq ?_ | refine ex_ne ?_ (by omega) | exact ex_lt (by with_reducible assumption) | rw [List.length_set] | assumption)) (by rfl) ?_
                        refine ew_get (M := mX9_told) dX9_told_173 fX9_86 (by repeat (first | with_reducible assumption | refine ex_eq ?_ | refine ex_ne ?_ (by omega) | exact ex_lt (by with_reducible assumption) | rw [List.length_set] | assumption)) (by rfl) ?_
                        refine ew_callV (M := mX9_told) dX9_told_176 vX9_133 (by repeat (first | with_reducible assumption | refine ex_eq ?_ | refine ex_ne ?_ (by omega) | exact ex_lt (by with_reducible assumption) | rw [List.length_set] | assumption)) rfl (sp_firstWrong a12 b4) rfl (Nat.le_of_ble_eq_true rfl) ⟨Nat.le_refl _, Nat.le_refl _⟩ rfl (fun H176 r176 q176 => ?_)
                        obtain ⟨rfl, rfl⟩ := q176
                        refine ew_iret (M := mX9_told) dX9_told_179 rfl (by first | rfl | decide) (Nat.le_refl _) (Nat.le_refl _) ?_
                        exact ⟨rfl, ex_ch.rf, hS⟩
                      · skip
                        by_cases q11 : x = nI 11
                        · rw [cif_n q0, cif_n q1, cif_n q2, cif_n q3, cif_n q4, cif_n q5, cif_n q6, cif_n q7, cif_n q8, cif_n q9, cif_n q10, cif_y q11]
                          subst q11
                          refine ew_iload_n (M := mX9_told) dX9_told_0 rfl ?_
                          refine ew_tableIn (M := mX9_told) (tgt := 180) (off := 179) dX9_told_1 (by decide) (by decide) (by decide) rfl ?_
                          refine ew_aload_n (M := mX9_told) dX9_told_180 rfl (Or.inr (Or.inl ⟨_, rfl⟩)) ?_
                          refine ew_get (M := mX9_told) dX9_told_181 fX9_34 (by repeat (first | with_reducible assumption | refine ex_eq ?_ | refine ex_ne ?_ (by omega) | exact ex_lt (by with_reducible assumption) | rw [List.length_set] | assumption)) (by rfl) ?_
                          refine ew_get (M := mX9_told) dX9_told_184 fX9_136 (by repeat (first | with_reducible assumption | refine ex_eq ?_ | refine ex_ne ?_ (by omega) | exact ex_lt (by with_reducible assumption) | rw [List.length_set] | assumption)) (by rfl) ?_
                          refine ew_iret (M := mX9_told) dX9_told_187 rfl (by first | rfl | decide) (Nat.le_refl _) (Nat.le_refl _) ?_
                          exact ⟨rfl, ex_ch.rf, hS⟩
                        · rw [cif_n q0, cif_n q1, cif_n q2, cif_n q3, cif_n q4, cif_n q5, cif_n q6, cif_n q7, cif_n q8, cif_n q9, cif_n q10, cif_n q11]
                          have hout : x.toInt < 0 ∨ 11 < x.toInt := told_out (fun k hk e => by
                            rcases (show k = 0 ∨ k = 1 ∨ k = 2 ∨ k = 3 ∨ k = 4 ∨ k = 5 ∨ k = 6 ∨ k = 7 ∨ k = 8 ∨ k = 9 ∨ k = 10 ∨ k = 11 by omega) with rfl | rfl | rfl | rfl | rfl | rfl | rfl | rfl | rfl | rfl | rfl | rfl <;> contradiction)
                          refine ew_iload_n (M := mX9_told) dX9_told_0 rfl ?_
                          refine ew_tableOut (M := mX9_told) (tgt := 188) dX9_told_1 hout rfl ?_
                          refine ew_ldc (M := mX9_told) dX9_told_188 kX9_70 ?_
                          refine ew_iret (M := mX9_told) dX9_told_190 rfl (by first | rfl | decide) (Nat.le_refl _) (Nat.le_refl _) ?_
                          exact ⟨rfl, ex_ch.rf, hS⟩
