abbrev FV : Type := Nat × Nat × Nat × Nat × Nat
def fiv (H : ex_H) (a : Nat) (v : FV) : Prop := fi_is H a v.1 v.2.1 v.2.2.1 v.2.2.2.1 v.2.2.2.2
/-- the filters' cells at q, q + 1: n filters F; the filters themselves lie beyond all else -/
def fs_is (H : ex_H) (q n : Nat) (F : Nat → FV) : Prop := n ≤ 6 ∧ H[q]? = some (ob 2 [.int (nI n), .ref (q + 1)]) ∧ ∃ f, H[q + 1]? = some (rr RX1 6 f) ∧ ∀ k, k < n → ∃ a, f k = some a ∧ 98 ≤ a ∧ fiv H a (F k)
theorem fiv.ch {H H' : ex_H} {L : List Nat} {a : Nat} {v : FV} (hc : ex_ch H H' L) (h : fiv H a v) (h0 : a ∉ L) : fiv H' a v := ⟨hc.at h.1 h0, h.2⟩
theorem fs_is.ch {H H' : ex_H} {L : List Nat} {q n : Nat} {F : Nat → FV} (hc : ex_ch H H' L) (h : fs_is H q n F) (hL : ∀ k ∈ L, k < 98) (h0 : q ∉ L) (h1 : q + 1 ∉ L) : fs_is H' q n F := by
  obtain ⟨a, b, f, c, d⟩ := h
  refine ⟨a, hc.at b h0, f, hc.at c h1, fun k hk => ?_⟩
  obtain ⟨x, x1, x2, x3⟩ := d k hk
  exact ⟨x, x1, x2, x3.ch hc (fun e => absurd (hL x e) (by omega))⟩
def fin (n : Nat) (x : Int32) : Prop := ∃ k, k < n ∧ x = nI k
theorem fin_not {n : Nat} {x : Int32} (hn : n ≤ 6) (h : ¬ fin n x) : ¬ (nI 0 ≤ x ∧ x ≤ nI n - nI 1) := by
  rintro ⟨h1, h2⟩
  rw [nI_0] at h1
  obtain ⟨j, hj, rfl⟩ := nI_of (Int32.not_lt.mpr h1)
  rcases Nat.eq_zero_or_pos n with e | e
  · subst e
    have h3 : nI 0 - nI 1 = -1 := by decide
    rw [h3] at h2
    exact absurd (Int32.le_trans h1 h2) (by decide)
  · rw [pk_sub e, nI_leI hj (by omega)] at h2
    exact h ⟨j, by omega, rfl⟩
theorem sp_isFull_y {d : Nat} {H : ex_H} {q n : Nat} {F : Nat → FV} (hq : fs_is H q n F) (hn : n = 6) : ex_Met mX2_isFull d 0 0 H [.ref q] (ex_r H (.int (nI 1))) := by
  obtain ⟨h1, h2, f, h3, h4⟩ := id hq
  subst hn
  refine ex_meth [(0, .ref q)] rfl rfl rfl (fun b => Nat.le_of_ble_eq_true rfl) ?_
  refine ew_aload_n (M := mX2_isFull) dX2_isFull_0 rfl (Or.inr (Or.inl ⟨_, rfl⟩)) ?_
  refine ew_get (M := mX2_isFull) dX2_isFull_1 fX2_9 (by repeat (first | with_reducible assumption | refine ex_eq ?_ | refine ex_ne ?_ (by omega) | exact ex_lt (by with_reducible assumption) | rw [List.length_set] | assumption)) (by rfl) ?_
  refine ew_bipush (M := mX2_isFull) dX2_isFull_4 (v := nI 6) (by decide) ?_
  refine ew_icmp_lt (M := mX2_isFull) (tgt := 13) dX2_isFull_6 rfl (fun h => absurd h (nI_nlt (Nat.le_refl _) (by decide))) (fun _ => ?_)
  refine ew_iconst (M := mX2_isFull) dX2_isFull_9 (v := nI 1) (by decide) ?_
  refine ew_goto (M := mX2_isFull) (tgt := 14) dX2_isFull_10 rfl ?_
  refine ew_iret (M := mX2_isFull) dX2_isFull_14 rfl (by first | rfl | decide) (Nat.le_refl _) (Nat.le_refl _) ?_
  exact ⟨rfl, rfl⟩
theorem sp_isFull_n {d : Nat} {H : ex_H} {q n : Nat} {F : Nat → FV} (hq : fs_is H q n F) (hn : n < 6) : ex_Met mX2_isFull d 0 0 H [.ref q] (ex_r H (.int (nI 0))) := by
  obtain ⟨h1, h2, f, h3, h4⟩ := id hq
  refine ex_meth [(0, .ref q)] rfl rfl rfl (fun b => Nat.le_of_ble_eq_true rfl) ?_
  refine ew_aload_n (M := mX2_isFull) dX2_isFull_0 rfl (Or.inr (Or.inl ⟨_, rfl⟩)) ?_
  refine ew_get (M := mX2_isFull) dX2_isFull_1 fX2_9 (by repeat (first | with_reducible assumption | refine ex_eq ?_ | refine ex_ne ?_ (by omega) | exact ex_lt (by with_reducible assumption) | rw [List.length_set] | assumption)) (by rfl) ?_
  refine ew_bipush (M := mX2_isFull) dX2_isFull_4 (v := nI 6) (by decide) ?_
  refine ew_icmp_lt (M := mX2_isFull) (tgt := 13) dX2_isFull_6 rfl (fun _ => ?_) (fun h => absurd (nI_lt hn (by decide)) h)
  refine ew_iconst (M := mX2_isFull) dX2_isFull_13 (v := nI 0) (by decide) ?_
  refine ew_iret (M := mX2_isFull) dX2_isFull_14 rfl (by first | rfl | decide) (Nat.le_refl _) (Nat.le_refl _) ?_
  exact ⟨rfl, rfl⟩
theorem sp_numbered_n {d : Nat} {H : ex_H} {q n : Nat} {F : Nat → FV} (hq : fs_is H q n F) {x : Int32} (hx : ¬ fin n x) : ex_Met mX2_numbered (d + 1) 0 0 H [.ref q, .int x] (ex_r H .null) := by
  obtain ⟨h1, h2, f, h3, h4⟩ := id hq
  refine ex_meth [(0, .ref q), (1, .int x)] rfl rfl rfl (fun b => Nat.le_of_ble_eq_true rfl) ?_
  refine ew_iload_n (M := mX2_numbered) dX2_numbered_0 rfl ?_
  refine ew_iconst (M := mX2_numbered) dX2_numbered_1 (v := nI 0) (by decide) ?_
  refine ew_aload_n (M := mX2_numbered) dX2_numbered_2 rfl (Or.inr (Or.inl ⟨_, rfl⟩)) ?_
  refine ew_get (M := mX2_numbered) dX2_numbered_3 fX2_9 (by repeat (first | with_reducible assumption | refine ex_eq ?_ | refine ex_ne ?_ (by omega) | exact ex_lt (by with_reducible assumption) | rw [List.length_set] | assumption)) (by rfl) ?_
  refine ew_iconst (M := mX2_numbered) dX2_numbered_6 (v := nI 1) (by decide) ?_
  refine ew_isub (M := mX2_numbered) dX2_numbered_7 ?_
  refine ew_callS (M := mX2_numbered) dX2_numbered_8 vX2_21 (sp_within_n (fin_not h1 hx)) rfl (Nat.le_of_ble_eq_true rfl) ⟨Nat.le_refl _, Nat.le_refl _⟩ rfl (fun H8 r8 q8 => ?_)
  obtain ⟨rfl, rfl⟩ := q8
  refine ew_if_eq (M := mX2_numbered) (tgt := 23) dX2_numbered_11 rfl (fun _ => ?_) (fun h => absurd rfl h)
  refine ew_aconst_null (M := mX2_numbered) dX2_numbered_23 ?_
  refine ew_aret (v := none) (M := mX2_numbered) dX2_numbered_24 rfl (Nat.le_refl _) (Nat.le_refl _) ?_
  exact ⟨rfl, rfl⟩
theorem sp_numbered {d : Nat} {H : ex_H} {q n : Nat} {F : Nat → FV} (hq : fs_is H q n F) {k : Nat} (hk : k < n) : ex_Met mX2_numbered (d + 1) 0 0 H [.ref q, .int (nI k)] (fun H' r => ∃ a : Nat, H = H' ∧ r = some (.ref a) ∧ 98 ≤ a ∧ fiv H a (F k)) := by
  obtain ⟨h1, h2, f, h3, h4⟩ := id hq
  obtain ⟨a, ha, ha2, ha3⟩ := h4 k hk
  refine ex_meth [(0, .ref q), (1, .int (nI k))] rfl rfl rfl (fun b => Nat.le_of_ble_eq_true rfl) ?_
  refine ew_iload_n (M := mX2_numbered) dX2_numbered_0 rfl ?_
  refine ew_iconst (M := mX2_numbered) dX2_numbered_1 (v := nI 0) (by decide) ?_
  refine ew_aload_n (M := mX2_numbered) dX2_numbered_2 rfl (Or.inr (Or.inl ⟨_, rfl⟩)) ?_
  refine ew_get (M := mX2_numbered) dX2_numbered_3 fX2_9 (by repeat (first | with_reducible assumption | refine ex_eq ?_ | refine ex_ne ?_ (by omega) | exact ex_lt (by with_reducible assumption) | rw [List.length_set] | assumption)) (by rfl) ?_
  refine ew_iconst (M := mX2_numbered) dX2_numbered_6 (v := nI 1) (by decide) ?_
  refine ew_isub (M := mX2_numbered) dX2_numbered_7 ?_
  rw [pk_sub (show 1 ≤ n by omega)]
  refine ew_callS (M := mX2_numbered) dX2_numbered_8 vX2_21 (sp_within_y (nI_le (Nat.zero_le _) (by omega)) (nI_le (by omega) (by omega))) rfl (Nat.le_of_ble_eq_true rfl) ⟨Nat.le_refl _, Nat.le_refl _⟩ rfl (fun H8 r8 q8 => ?_)
  obtain ⟨rfl, rfl⟩ := q8
  refine ew_if_eq (M := mX2_numbered) (tgt := 23) dX2_numbered_11 rfl (fun h => absurd h (by decide)) (fun _ => ?_)
  refine ew_aload_n (M := mX2_numbered) dX2_numbered_14 rfl (Or.inr (Or.inl ⟨_, rfl⟩)) ?_
  refine ew_get (M := mX2_numbered) dX2_numbered_15 fX2_17 (by repeat (first | with_reducible assumption | refine ex_eq ?_ | refine ex_ne ?_ (by omega) | exact ex_lt (by with_reducible assumption) | rw [List.length_set] | assumption)) (by rfl) ?_
  refine ew_iload_n (M := mX2_numbered) dX2_numbered_18 rfl ?_
  refine ew_aald (t0 := 2) (M := mX2_numbered) k dX2_numbered_19 (by repeat (first | with_reducible assumption | refine ex_eq ?_ | refine ex_ne ?_ (by omega) | exact ex_lt (by with_reducible assumption) | rw [List.length_set] | assumption)) (fun _ => rfl) ⟨rfl, by omega, by decide⟩ ?_
  rw [ha]
  refine ew_goto (M := mX2_numbered) (tgt := 24) dX2_numbered_20 rfl ?_
  refine ew_aret (M := mX2_numbered) dX2_numbered_24 rfl (Nat.le_refl _) (Nat.le_refl _) ?_
  exact ⟨a, rfl, rfl, ha2, ha3⟩
theorem sp_add {d : Nat} {H : ex_H} {q n : Nat} {F : Nat → FV} (hq : fs_is H q n F) {a : Nat} {v : FV} (hn : n < 6) (ha : 98 ≤ a) (hv : fiv H a v) (hq0 : q < 97) : ex_Met mX2_add (d + 1) 0 0 H [.ref q, .ref a] (fun H' r => r = some (.int (nI n)) ∧ ex_ch H H' [q, q + 1] ∧ fs_is H' q (n + 1) (va_up F n v)) := by
  obtain ⟨h1, h2, f, h3, h4⟩ := id hq
  have hv1 := hv.1
  refine ex_meth [(0, .ref q), (1, .ref a)] rfl rfl rfl (fun b => Nat.le_of_ble_eq_true rfl) ?_
  refine ew_aload_n (M := mX2_add) dX2_add_0 rfl (Or.inr (Or.inl ⟨_, rfl⟩)) ?_
  refine ew_callV (M := mX2_add) dX2_add_1 vX2_25 (by repeat (first | with_reducible assumption | refine ex_eq ?_ | refine ex_ne ?_ (by omega) | exact ex_lt (by with_reducible assumption) | rw [List.length_set] | assumption)) rfl (sp_isFull_n hq hn) rfl (Nat.le_of_ble_eq_true rfl) ⟨Nat.le_refl _, Nat.le_refl _⟩ rfl (fun H1 r1 q1 => ?_)
  obtain ⟨rfl, rfl⟩ := q1
  refine ew_if_eq (M := mX2_add) (tgt := 10) dX2_add_4 rfl (fun _ => ?_) (fun h => absurd rfl h)
  refine ew_aload_n (M := mX2_add) dX2_add_10 rfl (Or.inr (Or.inl ⟨_, rfl⟩)) ?_
  refine ew_get (M := mX2_add) dX2_add_11 fX2_17 (by repeat (first | with_reducible assumption | refine ex_eq ?_ | refine ex_ne ?_ (by omega) | exact ex_lt (by with_reducible assumption) | rw [List.length_set] | assumption)) (by rfl) ?_
  refine ew_aload_n (M := mX2_add) dX2_add_14 rfl (Or.inr (Or.inl ⟨_, rfl⟩)) ?_
  refine ew_get (M := mX2_add) dX2_add_15 fX2_9 (by repeat (first | with_reducible assumption | refine ex_eq ?_ | refine ex_ne ?_ (by omega) | exact ex_lt (by with_reducible assumption) | rw [List.length_set] | assumption)) (by rfl) ?_
  refine ew_aload_n (M := mX2_add) dX2_add_18 rfl (Or.inr (Or.inl ⟨_, rfl⟩)) ?_
  refine ew_aast (t0 := 2) (M := mX2_add) n dX2_add_19 (by repeat (first | with_reducible assumption | refine ex_eq ?_ | refine ex_ne ?_ (by omega) | exact ex_lt (by with_reducible assumption) | rw [List.length_set] | assumption)) (fun _ => rfl) (by repeat (first | with_reducible assumption | refine ex_eq ?_ | refine ex_ne ?_ (by omega) | exact ex_lt (by with_reducible assumption) | rw [List.length_set] | assumption)) rfl ⟨rfl, hn, by decide⟩ ?_
  refine ew_aload_n (M := mX2_add) dX2_add_20 rfl (Or.inr (Or.inl ⟨_, rfl⟩)) ?_
  refine ew_dup (M := mX2_add) dX2_add_21 rfl ?_
  refine ew_get (M := mX2_add) dX2_add_22 fX2_9 (by repeat (first | with_reducible assumption | refine ex_eq ?_ | refine ex_ne ?_ (by omega) | exact ex_lt (by with_reducible assumption) | rw [List.length_set] | assumption)) (by rfl) ?_
  refine ew_iconst (M := mX2_add) dX2_add_25 (v := nI 1) (by decide) ?_
  refine ew_iadd (M := mX2_add) dX2_add_26 ?_
  rw [nI_add]
  refine ew_put (M := mX2_add) dX2_add_27 fX2_9 (by repeat (first | with_reducible assumption | refine ex_eq ?_ | refine ex_ne ?_ (by omega) | exact ex_lt (by with_reducible assumption) | rw [List.length_set] | assumption)) (by exact Nat.le_of_ble_eq_true rfl) ⟨rfl, rfl, fun _ h => by cases h⟩ ?_
  refine ew_aload_n (M := mX2_add) dX2_add_30 rfl (Or.inr (Or.inl ⟨_, rfl⟩)) ?_
  refine ew_get (M := mX2_add) dX2_add_31 fX2_9 (by repeat (first | with_reducible assumption | refine ex_eq ?_ | refine ex_ne ?_ (by omega) | exact ex_lt (by with_reducible assumption) | rw [List.length_set] | assumption)) (by rfl) ?_
  refine ew_iconst (M := mX2_add) dX2_add_34 (v := nI 1) (by decide) ?_
  refine ew_isub (M := mX2_add) dX2_add_35 ?_
  rw [pk_sub (show 1 ≤ n + 1 by omega), Nat.add_sub_cancel]
  refine ew_iret (M := mX2_add) dX2_add_36 rfl (by first | rfl | decide) (Nat.le_refl _) (Nat.le_refl _) ?_
  refine ⟨rfl, (ex_ch.rf.set (by simp)).set (by simp), by omega, ex_eq (by rw [List.length_set]; exact ex_lt h2), va_up f n (some a), (by repeat (first | with_reducible assumption | refine ex_eq ?_ | refine ex_ne ?_ (by omega) | exact ex_lt (by with_reducible assumption) | rw [List.length_set] | assumption)), fun k hk => ?_⟩
  have hcc : ex_ch H ((H.set (q + 1) (rr RX1 6 (va_up f n (some a)))).set q (ob 2 [.int (nI (n + 1)), .ref (q + 1)])) [q, q + 1] := (ex_ch.rf.set (by simp)).set (by simp)
  by_cases e : k = n
  · subst e
    simp only [va_up, if_true]
    exact ⟨a, rfl, ha, hv.ch hcc (by simp; omega)⟩
  · simp only [va_up, if_neg e]
    obtain ⟨x, x1, x2, x3⟩ := h4 k (by omega)
    exact ⟨x, x1, x2, x3.ch hcc (by simp; omega)⟩
def f_rem (F : Nat → FV) (k : Nat) : Nat → FV := fun j => if j < k then F j else F (j + 1)
theorem sp_remove {d : Nat} {H : ex_H} {q n : Nat} {F : Nat → FV} (hq : fs_is H q n F) {k : Nat} (hk : k < n) (hq0 : q < 97) : ex_Met mX2_remove (d + 1) 0 0 H [.ref q, .int (nI k)] (fun H' r => r = some (.int (nI (n - 1))) ∧ ex_ch H H' [q, q + 1] ∧ fs_is H' q (n - 1) (f_rem F k)) := by
  obtain ⟨h1, h2, f, h3, h4⟩ := id hq
  refine ex_meth [(0, .ref q), (1, .int (nI k))] rfl rfl rfl (fun b => Nat.le_of_ble_eq_true rfl) ?_
  refine ew_iload_n (M := mX2_remove) dX2_remove_0 rfl ?_
  refine ew_iconst (M := mX2_remove) dX2_remove_1 (v := nI 0) (by decide) ?_
  refine ew_aload_n (M := mX2_remove) dX2_remove_2 rfl (Or.inr (Or.inl ⟨_, rfl⟩)) ?_
  refine ew_get (M := mX2_remove) dX2_remove_3 fX2_9 (by repeat (first | with_reducible assumption | refine ex_eq ?_ | refine ex_ne ?_ (by omega) | exact ex_lt (by with_reducible assumption) | rw [List.length_set] | assumption)) (by rfl) ?_
  refine ew_iconst (M := mX2_remove) dX2_remove_6 (v := nI 1) (by decide) ?_
  refine ew_isub (M := mX2_remove) dX2_remove_7 ?_
  rw [pk_sub (show 1 ≤ n by omega)]
  refine ew_callS (M := mX2_remove) dX2_remove_8 vX2_21 (sp_within_y (nI_le (Nat.zero_le _) (by omega)) (nI_le (by omega) (by omega))) rfl (Nat.le_of_ble_eq_true rfl) ⟨Nat.le_refl _, Nat.le_refl _⟩ rfl (fun H8 r8 q8 => ?_)
  obtain ⟨rfl, rfl⟩ := q8
  refine ew_if_ne (M := mX2_remove) (tgt := 17) dX2_remove_11 rfl (fun _ => ?_) (fun h => absurd h (by decide))
  refine ew_aload_n (M := mX2_remove) dX2_remove_17 rfl (Or.inr (Or.inl ⟨_, rfl⟩)) ?_
  refine ew_dup (M := mX2_remove) dX2_remove_18 rfl ?_
  refine ew_get (M := mX2_remove) dX2_remove_19 fX2_9 (by repeat (first | with_reducible assumption | refine ex_eq ?_ | refine ex_ne ?_ (by omega) | exact ex_lt (by with_reducible assumption) | rw [List.length_set] | assumption)) (by rfl) ?_
  refine ew_iconst (M := mX2_remove) dX2_remove_22 (v := nI 1) (by decide) ?_
  refine ew_isub (M := mX2_remove) dX2_remove_23 ?_
  rw [pk_sub (show 1 ≤ n by omega)]
  refine ew_put (M := mX2_remove) dX2_remove_24 fX2_9 (by repeat (first | with_reducible assumption | refine ex_eq ?_ | refine ex_ne ?_ (by omega) | exact ex_lt (by with_reducible assumption) | rw [List.length_set] | assumption)) (by exact Nat.le_of_ble_eq_true rfl) ⟨rfl, rfl, fun _ h => by cases h⟩ ?_
  refine ew_iload_n (M := mX2_remove) dX2_remove_27 rfl ?_
  refine ew_istore_n (M := mX2_remove) dX2_remove_28 (by decide) rfl ?_
  refine ew_ls [(0, .ref q), (1, .int (nI k)), (2, .int (nI (k + 0)))] ⟨rfl, rfl, rfl, trivial⟩ ?_
  refine nat_down (P := fun i => ∀ (H2 : ex_H) (e : Nat → Option Nat), ex_ch H H2 [q, q + 1] → H2[q]? = some (ob 2 [.int (nI (n - 1)), .ref (q + 1)]) → H2[q + 1]? = some (rr RX1 6 e) → (∀ j, j < n → j < k + i → ∃ a, e j = some a ∧ 98 ≤ a ∧ fiv H a (f_rem F k j)) → (∀ j, k + i ≤ j → e j = f j) → ex_W mX2_remove (d + 1) 0 0 (fun H' r => r = some (.int (nI (n - 1))) ∧ ex_ch H H' [q, q + 1] ∧ fs_is H' q (n - 1) (f_rem F k)) H2 29 [(0, .ref q), (1, .int (nI k)), (2, .int (nI (k + i)))] [] 0 0) (n - 1 - k) (fun i hi kk => ?_) ?_ _ f (ex_ch.rf.set (by simp)) (ex_eq (ex_lt h2)) (by repeat (first | with_reducible assumption | refine ex_eq ?_ | refine ex_ne ?_ (by omega) | exact ex_lt (by with_reducible assumption) | rw [List.length_set] | assumption)) (fun j hj hj2 => ?_) (fun j _ => rfl)
  · intro H2 e hc2 hq2 hq3 hlo hcl
    obtain ⟨a, ha1, ha2, ha3⟩ := h4 (k + i + 1) (by omega)
    refine ew_iload_n (M := mX2_remove) dX2_remove_29 rfl ?_
    refine ew_aload_n (M := mX2_remove) dX2_remove_30 rfl (Or.inr (Or.inl ⟨_, rfl⟩)) ?_
    refine ew_get (M := mX2_remove) dX2_remove_31 fX2_9 (by repeat (first | with_reducible assumption | refine ex_eq ?_ | refine ex_ne ?_ (by omega) | exact ex_lt (by with_reducible assumption) | rw [List.length_set] | assumption)) (by rfl) ?_
    refine ew_icmp_ge (M := mX2_remove) (tgt := 57) dX2_remove_34 rfl (fun h => absurd h (nI_ge (by omega) (by omega))) (fun _ => ?_)
    refine ew_aload_n (M := mX2_remove) dX2_remove_37 rfl (Or.inr (Or.inl ⟨_, rfl⟩)) ?_
    refine ew_get (M := mX2_remove) dX2_remove_38 fX2_17 (by repeat (first | with_reducible assumption | refine ex_eq ?_ | refine ex_ne ?_ (by omega) | exact ex_lt (by with_reducible assumption) | rw [List.length_set] | assumption)) (by rfl) ?_
    refine ew_iload_n (M := mX2_remove) dX2_remove_41 rfl ?_
    refine ew_aload_n (M := mX2_remove) dX2_remove_42 rfl (Or.inr (Or.inl ⟨_, rfl⟩)) ?_
    refine ew_get (M := mX2_remove) dX2_remove_43 fX2_17 (by repeat (first | with_reducible assumption | refine ex_eq ?_ | refine ex_ne ?_ (by omega) | exact ex_lt (by with_reducible assumption) | rw [List.length_set] | assumption)) (by rfl) ?_
    refine ew_iload_n (M := mX2_remove) dX2_remove_46 rfl ?_
    refine ew_iconst (M := mX2_remove) dX2_remove_47 (v := nI 1) (by decide) ?_
    refine ew_iadd (M := mX2_remove) dX2_remove_48 ?_
    refine ew_aald (t0 := 2) (M := mX2_remove) (k + i + 1) dX2_remove_49 (by repeat (first | with_reducible assumption | refine ex_eq ?_ | refine ex_ne ?_ (by omega) | exact ex_lt (by with_reducible assumption) | rw [List.length_set] | assumption)) (fun _ => rfl) ⟨by rw [nI_add], by omega, by decide⟩ ?_
    rw [hcl _ (by omega), ha1]
    refine ew_aast (t0 := 2) (M := mX2_remove) (k + i) dX2_remove_50 (by repeat (first | with_reducible assumption | refine ex_eq ?_ | refine ex_ne ?_ (by omega) | exact ex_lt (by with_reducible assumption) | rw [List.length_set] | assumption)) (fun _ => rfl) (hc2.at ha3.1 (by simp; omega)) rfl ⟨rfl, by omega, by decide⟩ ?_
    refine ew_iinc (M := mX2_remove) dX2_remove_51 rfl (ex_inc (k + i)) (by decide) rfl ?_
    refine ew_goto (M := mX2_remove) (tgt := 29) dX2_remove_54 rfl ?_
    refine ew_ls _ ?_ (kk _ (va_up e (k + i) (some a)) (hc2.set (by simp)) (by repeat (first | with_reducible assumption | refine ex_eq ?_ | refine ex_ne ?_ (by omega) | exact ex_lt (by with_reducible assumption) | rw [List.length_set] | assumption)) (by repeat (first | with_reducible assumption | refine ex_eq ?_ | refine ex_ne ?_ (by omega) | exact ex_lt (by with_reducible assumption) | rw [List.length_set] | assumption)) (fun j hj hj2 => ?_) (fun j hj => ?_))
    · exact ⟨rfl, rfl, rfl, trivial⟩
    · by_cases ej : j = k + i
      · subst ej
        simp only [va_up, if_true]
        refine ⟨a, rfl, ha2, ?_⟩
        have er : f_rem F k (k + i) = F (k + i + 1) := if_neg (by omega)
        rw [er]; exact ha3
      · simp only [va_up, if_neg ej]
        exact hlo j hj (by omega)
    · simp only [va_up, if_neg (show j ≠ k + i by omega)]
      exact hcl j (by omega)
  · intro H2 e hc2 hq2 hq3 hlo hcl
    refine ew_iload_n (M := mX2_remove) dX2_remove_29 rfl ?_
    refine ew_aload_n (M := mX2_remove) dX2_remove_30 rfl (Or.inr (Or.inl ⟨_, rfl⟩)) ?_
    refine ew_get (M := mX2_remove) dX2_remove_31 fX2_9 (by repeat (first | with_reducible assumption | refine ex_eq ?_ | refine ex_ne ?_ (by omega) | exact ex_lt (by with_reducible assumption) | rw [List.length_set] | assumption)) (by rfl) ?_
    refine ew_icmp_ge (M := mX2_remove) (tgt := 57) dX2_remove_34 rfl (fun _ => ?_) (fun h => absurd (nI_le (by omega) (by omega)) h)
    refine ew_aload_n (M := mX2_remove) dX2_remove_57 rfl (Or.inr (Or.inl ⟨_, rfl⟩)) ?_
    refine ew_get (M := mX2_remove) dX2_remove_58 fX2_9 (by repeat (first | with_reducible assumption | refine ex_eq ?_ | refine ex_ne ?_ (by omega) | exact ex_lt (by with_reducible assumption) | rw [List.length_set] | assumption)) (by rfl) ?_
    refine ew_iret (M := mX2_remove) dX2_remove_61 rfl (by first | rfl | decide) (Nat.le_refl _) (Nat.le_refl _) ?_
    refine ⟨rfl, hc2, by omega, hq2, e, hq3, fun j hj => ?_⟩
    obtain ⟨a, a1, a2, a3⟩ := hlo j (by omega) (by omega)
    exact ⟨a, a1, a2, a3.ch hc2 (by simp; omega)⟩
  · obtain ⟨a, a1, a2, a3⟩ := h4 j hj
    refine ⟨a, a1, a2, ?_⟩
    have er : f_rem F k j = F j := if_pos (by omega)
    rw [er]; exact a3
theorem sp_fbecome {d : Nat} {H : ex_H} {q q2 n n2 : Nat} {F F2 : Nat → FV} (hq : fs_is H q n F) (hq2 : fs_is H q2 n2 F2) (hqq : q + 1 < q2 ∨ q2 + 1 < q) (hq0 : q < 97) : ex_Met mX2_become d 0 0 H [.ref q, .ref q2] (fun H' r => r = none ∧ ex_ch H H' [q, q + 1] ∧ fs_is H' q n2 F2) := by
  obtain ⟨h1, h2, f, h3, h4⟩ := id hq
  obtain ⟨k1, k2, f2, k3, k4⟩ := id hq2
  refine ex_meth [(0, .ref q), (1, .ref q2)] rfl rfl rfl (fun b => Nat.le_of_ble_eq_true rfl) ?_
  refine ew_aload_n (M := mX2_become) dX2_become_0 rfl (Or.inr (Or.inl ⟨_, rfl⟩)) ?_
  refine ew_aload_n (M := mX2_become) dX2_become_1 rfl (Or.inr (Or.inl ⟨_, rfl⟩)) ?_
  refine ew_get (M := mX2_become) dX2_become_2 fX2_9 (by repeat (first | with_reducible assumption | refine ex_eq ?_ | refine ex_ne ?_ (by omega) | exact ex_lt (by with_reducible assumption) | rw [List.length_set] | assumption)) (by rfl) ?_
  refine ew_put (M := mX2_become) dX2_become_5 fX2_9 (by repeat (first | with_reducible assumption | refine ex_eq ?_ | refine ex_ne ?_ (by omega) | exact ex_lt (by with_reducible assumption) | rw [List.length_set] | assumption)) (by exact Nat.le_of_ble_eq_true rfl) ⟨rfl, rfl, fun _ h => by cases h⟩ ?_
  refine ew_iconst (M := mX2_become) dX2_become_8 (v := nI 0) (by decide) ?_
  refine ew_istore_n (M := mX2_become) dX2_become_9 (by decide) rfl ?_
  refine ew_ls [(0, .ref q), (1, .ref q2), (2, .int (nI 0))] ⟨rfl, rfl, rfl, trivial⟩ ?_
  refine nat_down (P := fun i => ∀ (H2 : ex_H) (e : Nat → Option Nat), ex_ch H H2 [q, q + 1] → H2[q]? = some (ob 2 [.int (nI n2), .ref (q + 1)]) → H2[q + 1]? = some (rr RX1 6 e) → (∀ j, j < i → e j = f2 j) → ex_W mX2_become d 0 0 (fun H' r => r = none ∧ ex_ch H H' [q, q + 1] ∧ fs_is H' q n2 F2) H2 10 [(0, .ref q), (1, .ref q2), (2, .int (nI i))] [] 0 0) n2 (fun i hi kk => ?_) ?_ _ f (ex_ch.rf.set (by simp)) (ex_eq (ex_lt h2)) (by repeat (first | with_reducible assumption | refine ex_eq ?_ | refine ex_ne ?_ (by omega) | exact ex_lt (by with_reducible assumption) | rw [List.length_set] | assumption)) (fun j hj => absurd hj (Nat.not_lt_zero j))
  · intro H2 e hc2 hq2' hq3 hlo
    obtain ⟨a, ha1, ha2, ha3⟩ := k4 i hi
    have k22 := hc2.at k2 (by simp; omega)
    have k32 := hc2.at k3 (by simp; omega)
    refine ew_iload_n (M := mX2_become) dX2_become_10 rfl ?_
    refine ew_aload_n (M := mX2_become) dX2_become_11 rfl (Or.inr (Or.inl ⟨_, rfl⟩)) ?_
    refine ew_get (M := mX2_become) dX2_become_12 fX2_9 (by repeat (first | with_reducible assumption | refine ex_eq ?_ | refine ex_ne ?_ (by omega) | exact ex_lt (by with_reducible assumption) | rw [List.length_set] | assumption)) (by rfl) ?_
    refine ew_icmp_ge (M := mX2_become) (tgt := 36) dX2_become_15 rfl (fun h => absurd h (nI_ge hi (by omega))) (fun _ => ?_)
    refine ew_aload_n (M := mX2_become) dX2_become_18 rfl (Or.inr (Or.inl ⟨_, rfl⟩)) ?_
    refine ew_get (M := mX2_become) dX2_become_19 fX2_17 (by repeat (first | with_reducible assumption | refine ex_eq ?_ | refine ex_ne ?_ (by omega) | exact ex_lt (by with_reducible assumption) | rw [List.length_set] | assumption)) (by rfl) ?_
    refine ew_iload_n (M := mX2_become) dX2_become_22 rfl ?_
    refine ew_aload_n (M := mX2_become) dX2_become_23 rfl (Or.inr (Or.inl ⟨_, rfl⟩)) ?_
    refine ew_get (M := mX2_become) dX2_become_24 fX2_17 (by repeat (first | with_reducible assumption | refine ex_eq ?_ | refine ex_ne ?_ (by omega) | exact ex_lt (by with_reducible assumption) | rw [List.length_set] | assumption)) (by rfl) ?_
    refine ew_iload_n (M := mX2_become) dX2_become_27 rfl ?_
    refine ew_aald (t0 := 2) (M := mX2_become) i dX2_become_28 (by repeat (first | with_reducible assumption | refine ex_eq ?_ | refine ex_ne ?_ (by omega) | exact ex_lt (by with_reducible assumption) | rw [List.length_set] | assumption)) (fun _ => rfl) ⟨rfl, by omega, by decide⟩ ?_
    rw [ha1]
    refine ew_aast (t0 := 2) (M := mX2_become) i dX2_become_29 (by repeat (first | with_reducible assumption | refine ex_eq ?_ | refine ex_ne ?_ (by omega) | exact ex_lt (by with_reducible assumption) | rw [List.length_set] | assumption)) (fun _ => rfl) (hc2.at ha3.1 (by simp; omega)) rfl ⟨rfl, by omega, by decide⟩ ?_
    refine ew_iinc (M := mX2_become) dX2_become_30 rfl (ex_inc i) (by decide) rfl ?_
    refine ew_goto (M := mX2_become) (tgt := 10) dX2_become_33 rfl ?_
    refine ew_ls _ ?_ (kk _ (va_up e i (some a)) (hc2.set (by simp)) (by repeat (first | with_reducible assumption | refine ex_eq ?_ | refine ex_ne ?_ (by omega) | exact ex_lt (by with_reducible assumption) | rw [List.length_set] | assumption)) (by repeat (first | with_reducible assumption | refine ex_eq ?_ | refine ex_ne ?_ (by omega) | exact ex_lt (by with_reducible assumption) | rw [List.length_set] | assumption)) (fun j hj => ?_))
    · exact ⟨rfl, rfl, rfl, trivial⟩
    · by_cases ej : j = i
      · subst ej; simp only [va_up, if_true]; exact ha1.symm
      · simp only [va_up, if_neg ej]; exact hlo j (by omega)
  · intro H2 e hc2 hq2' hq3 hlo
    refine ew_iload_n (M := mX2_become) dX2_become_10 rfl ?_
    refine ew_aload_n (M := mX2_become) dX2_become_11 rfl (Or.inr (Or.inl ⟨_, rfl⟩)) ?_
    refine ew_get (M := mX2_become) dX2_become_12 fX2_9 (by repeat (first | with_reducible assumption | refine ex_eq ?_ | refine ex_ne ?_ (by omega) | exact ex_lt (by with_reducible assumption) | rw [List.length_set] | assumption)) (by rfl) ?_
    refine ew_icmp_ge (M := mX2_become) (tgt := 36) dX2_become_15 rfl (fun _ => ?_) (fun h => absurd (nI_le (Nat.le_refl _) (by omega)) h)
    refine ew_vret (M := mX2_become) dX2_become_36 rfl (Nat.le_refl _) (Nat.le_refl _) ?_
    refine ⟨rfl, hc2, k1, hq2', e, hq3, fun j hj => ?_⟩
    obtain ⟨a, a1, a2, a3⟩ := k4 j hj
    exact ⟨a, (hlo j hj).trans a1, a2, a3.ch hc2 (by simp; omega)⟩
