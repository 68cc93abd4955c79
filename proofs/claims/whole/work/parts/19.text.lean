/-- a text's cells: n letters, t -/
def tx_is (H : ex_H) (q n : Nat) (t : Nat → Nat) (pl : Int32) : Prop := n ≤ 180 ∧ (∀ k, k < n → t k < 256) ∧ H[q]? = some (ob 7 [.int (nI n), .ref (q + 1), .int pl]) ∧ ∃ f, H[q + 1]? = some (ar .int 180 f) ∧ ∀ k, k < n → f k = nI (t k)
theorem tx_is.ch {H H' : ex_H} {L : List Nat} {q n : Nat} {t : Nat → Nat} {pl : Int32} (hc : ex_ch H H' L) (h : tx_is H q n t pl) (h0 : q ∉ L) (h1 : q + 1 ∉ L) : tx_is H' q n t pl := by
  obtain ⟨a, a2, b, f, e, g⟩ := h
  exact ⟨a, a2, hc.at b h0, f, hc.at e h1, g⟩
theorem sp_append_f {d : Nat} {H : ex_H} {q n : Nat} {t : Nat → Nat} {pl x : Int32} (hq : tx_is H q n t pl) (hn : n = 180) : ex_Met mX7_append d 0 0 H [.ref q, .int x] (ex_r H (.int (-1000000004))) := by
  obtain ⟨h1, h2, h3, f, h4, h5⟩ := id hq
  subst hn
  refine ex_meth [(0, .ref q), (1, .int x)] rfl rfl rfl (fun b => Nat.le_of_ble_eq_true rfl) ?_
  refine ew_aload_n (M := mX7_append) dX7_append_0 rfl (Or.inr (Or.inl ⟨_, rfl⟩)) ?_
  refine ew_get (M := mX7_append) dX7_append_1 fX7_9 (by repeat (first | with_reducible assumption | refine ex_eq ?_ | refine ex_ne ?_ (by omega) | exact ex_lt (by with_reducible assumption) | rw [List.length_set] | assumption)) (by rfl) ?_
  refine ew_sipush (M := mX7_append) dX7_append_4 (v := nI 180) (by decide) ?_
  refine ew_icmp_lt (M := mX7_append) (tgt := 13) dX7_append_7 rfl (fun h => absurd h (nI_nlt (Nat.le_refl _) (by decide))) (fun _ => ?_)
  refine ew_ldc (M := mX7_append) dX7_append_10 kX7_22 ?_
  refine ew_iret (M := mX7_append) dX7_append_12 rfl (by first | rfl | decide) (Nat.le_refl _) (Nat.le_refl _) ?_
  exact ⟨rfl, rfl⟩
theorem sp_append {d : Nat} {H : ex_H} {q n x : Nat} {t : Nat → Nat} {pl : Int32} (hq : tx_is H q n t pl) (hn : n < 180) (hx : x < 256) : ex_Met mX7_append d 0 0 H [.ref q, .int (nI x)] (fun H' r => r = some (.int (nI (n + 1))) ∧ ex_ch H H' [q, q + 1] ∧ tx_is H' q (n + 1) (va_up t n x) pl) := by
  obtain ⟨h1, h2, h3, f, h4, h5⟩ := id hq
  refine ex_meth [(0, .ref q), (1, .int (nI x))] rfl rfl rfl (fun b => Nat.le_of_ble_eq_true rfl) ?_
  refine ew_aload_n (M := mX7_append) dX7_append_0 rfl (Or.inr (Or.inl ⟨_, rfl⟩)) ?_
  refine ew_get (M := mX7_append) dX7_append_1 fX7_9 (by repeat (first | with_reducible assumption | refine ex_eq ?_ | refine ex_ne ?_ (by omega) | exact ex_lt (by with_reducible assumption) | rw [List.length_set] | assumption)) (by rfl) ?_
  refine ew_sipush (M := mX7_append) dX7_append_4 (v := nI 180) (by decide) ?_
  refine ew_icmp_lt (M := mX7_append) (tgt := 13) dX7_append_7 rfl (fun _ => ?_) (fun h => absurd (nI_lt hn (by decide)) h)
  refine ew_aload_n (M := mX7_append) dX7_append_13 rfl (Or.inr (Or.inl ⟨_, rfl⟩)) ?_
  refine ew_get (M := mX7_append) dX7_append_14 fX7_15 (by repeat (first | with_reducible assumption | refine ex_eq ?_ | refine ex_ne ?_ (by omega) | exact ex_lt (by with_reducible assumption) | rw [List.length_set] | assumption)) (by rfl) ?_
  refine ew_aload_n (M := mX7_append) dX7_append_17 rfl (Or.inr (Or.inl ⟨_, rfl⟩)) ?_
  refine ew_get (M := mX7_append) dX7_append_18 fX7_9 (by repeat (first | with_reducible assumption | refine ex_eq ?_ | refine ex_ne ?_ (by omega) | exact ex_lt (by with_reducible assumption) | rw [List.length_set] | assumption)) (by rfl) ?_
  refine ew_iload_n (M := mX7_append) dX7_append_21 rfl ?_
  refine ew_iast (M := mX7_append) n dX7_append_22 (by repeat (first | with_reducible assumption | refine ex_eq ?_ | refine ex_ne ?_ (by omega) | exact ex_lt (by with_reducible assumption) | rw [List.length_set] | assumption)) ⟨rfl, hn, by decide⟩ ?_
  refine ew_aload_n (M := mX7_append) dX7_append_23 rfl (Or.inr (Or.inl ⟨_, rfl⟩)) ?_
  refine ew_dup (M := mX7_append) dX7_append_24 rfl ?_
  refine ew_get (M := mX7_append) dX7_append_25 fX7_9 (by repeat (first | with_reducible assumption | refine ex_eq ?_ | refine ex_ne ?_ (by omega) | exact ex_lt (by with_reducible assumption) | rw [List.length_set] | assumption)) (by rfl) ?_
  refine ew_iconst (M := mX7_append) dX7_append_28 (v := nI 1) (by decide) ?_
  refine ew_iadd (M := mX7_append) dX7_append_29 ?_
  rw [nI_add]
  refine ew_put (M := mX7_append) dX7_append_30 fX7_9 (by repeat (first | with_reducible assumption | refine ex_eq ?_ | refine ex_ne ?_ (by omega) | exact ex_lt (by with_reducible assumption) | rw [List.length_set] | assumption)) (by exact Nat.le_of_ble_eq_true rfl) ⟨rfl, rfl, fun _ h => by cases h⟩ ?_
  refine ew_aload_n (M := mX7_append) dX7_append_33 rfl (Or.inr (Or.inl ⟨_, rfl⟩)) ?_
  refine ew_get (M := mX7_append) dX7_append_34 fX7_9 (by repeat (first | with_reducible assumption | refine ex_eq ?_ | refine ex_ne ?_ (by omega) | exact ex_lt (by with_reducible assumption) | rw [List.length_set] | assumption)) (by rfl) ?_
  refine ew_iret (M := mX7_append) dX7_append_37 rfl (by first | rfl | decide) (Nat.le_refl _) (Nat.le_refl _) ?_
  refine ⟨rfl, (ex_ch.rf.set (by simp)).set (by simp), by omega, fun k hk => ?_, ex_eq (by rw [List.length_set]; exact ex_lt h3), upd f n (nI x), (by repeat (first | with_reducible assumption | refine ex_eq ?_ | refine ex_ne ?_ (by omega) | exact ex_lt (by with_reducible assumption) | rw [List.length_set] | assumption)), fun k hk => ?_⟩
  · by_cases e : k = n
    · subst e; simp only [va_up, if_true]; exact hx
    · simp only [va_up, if_neg e]; exact h2 k (by omega)
  · by_cases e : k = n
    · subst e; simp only [va_up, upd, if_true]
    · simp only [va_up, upd, if_neg e]; exact h5 k (by omega)
theorem sp_clear {d : Nat} {H : ex_H} {q n : Nat} {t : Nat → Nat} {pl : Int32} (hq : tx_is H q n t pl) : ex_Met mX7_clear d 0 0 H [.ref q] (fun H' r => r = none ∧ ex_ch H H' [q] ∧ tx_is H' q 0 t pl) := by
  obtain ⟨h1, h2, h3, f, h4, h5⟩ := id hq
  refine ex_meth [(0, .ref q)] rfl rfl rfl (fun b => Nat.le_of_ble_eq_true rfl) ?_
  refine ew_aload_n (M := mX7_clear) dX7_clear_0 rfl (Or.inr (Or.inl ⟨_, rfl⟩)) ?_
  refine ew_iconst (M := mX7_clear) dX7_clear_1 (v := nI 0) (by decide) ?_
  refine ew_put (M := mX7_clear) dX7_clear_2 fX7_9 (by repeat (first | with_reducible assumption | refine ex_eq ?_ | refine ex_ne ?_ (by omega) | exact ex_lt (by with_reducible assumption) | rw [List.length_set] | assumption)) (by exact Nat.le_of_ble_eq_true rfl) ⟨rfl, rfl, fun _ h => by cases h⟩ ?_
  refine ew_vret (M := mX7_clear) dX7_clear_5 rfl (Nat.le_refl _) (Nat.le_refl _) ?_
  exact ⟨rfl, ex_ch.rf.set (by simp), by omega, fun k hk => absurd hk (Nat.not_lt_zero k), ex_eq (ex_lt h3), f, (by repeat (first | with_reducible assumption | refine ex_eq ?_ | refine ex_ne ?_ (by omega) | exact ex_lt (by with_reducible assumption) | rw [List.length_set] | assumption)), fun k hk => absurd hk (Nat.not_lt_zero k)⟩
theorem sp_placeRead {d : Nat} {H : ex_H} {q n : Nat} {t : Nat → Nat} {pl : Int32} (hq : tx_is H q n t pl) : ex_Met mX7_placeRead d 0 0 H [.ref q] (ex_r H (.int pl)) := by
  obtain ⟨h1, h2, h3, f, h4, h5⟩ := id hq
  refine ex_meth [(0, .ref q)] rfl rfl rfl (fun b => Nat.le_of_ble_eq_true rfl) ?_
  refine ew_aload_n (M := mX7_placeRead) dX7_placeRead_0 rfl (Or.inr (Or.inl ⟨_, rfl⟩)) ?_
  refine ew_get (M := mX7_placeRead) dX7_placeRead_1 fX7_19 (by repeat (first | with_reducible assumption | refine ex_eq ?_ | refine ex_ne ?_ (by omega) | exact ex_lt (by with_reducible assumption) | rw [List.length_set] | assumption)) (by rfl) ?_
  refine ew_iret (M := mX7_placeRead) dX7_placeRead_4 rfl (by first | rfl | decide) (Nat.le_refl _) (Nat.le_refl _) ?_
  exact ⟨rfl, rfl⟩
theorem sp_Reader {d : Nat} {H : ex_H} {a p : Nat} (ha : H[a]? = some (ob 5 [.null, .int 0, .int 0, .int 0, .int 0, .int 0])) : ex_Met mX5_init (d + 1) 0 0 H [.ref a, .ref p] (fun H' r => r = none ∧ ex_ch H H' [a] ∧ re_is H' a p 0 0 0 0 0) := by
  refine ex_meth [(0, .ref a), (1, .ref p)] rfl rfl rfl (fun b => Nat.le_of_ble_eq_true rfl) ?_
  refine ew_aload_n (M := mX5_init) dX5_init_0 rfl (Or.inr (Or.inl ⟨_, rfl⟩)) ?_
  refine ew_objInit (M := mX5_init) dX5_init_1 oX5_3 oi_inst oi_code (by omega) rfl ?_
  refine ew_aload_n (M := mX5_init) dX5_init_4 rfl (Or.inr (Or.inl ⟨_, rfl⟩)) ?_
  refine ew_iconst (M := mX5_init) dX5_init_5 (v := nI 0) (by decide) ?_
  refine ew_put (M := mX5_init) dX5_init_6 fX5_9 (by repeat (first | with_reducible assumption | refine ex_eq ?_ | refine ex_ne ?_ (by omega) | exact ex_lt (by with_reducible assumption) | rw [List.length_set] | assumption)) (by exact Nat.le_of_ble_eq_true rfl) ⟨rfl, rfl, fun _ h => by cases h⟩ ?_
  refine ew_aload_n (M := mX5_init) dX5_init_9 rfl (Or.inr (Or.inl ⟨_, rfl⟩)) ?_
  refine ew_bipush (M := mX5_init) dX5_init_10 (v := nI 10) (by decide) ?_
  refine ew_put (M := mX5_init) dX5_init_12 fX5_15 (by repeat (first | with_reducible assumption | refine ex_eq ?_ | refine ex_ne ?_ (by omega) | exact ex_lt (by with_reducible assumption) | rw [List.length_set] | assumption)) (by exact Nat.le_of_ble_eq_true rfl) ⟨rfl, rfl, fun _ h => by cases h⟩ ?_
  refine ew_aload_n (M := mX5_init) dX5_init_15 rfl (Or.inr (Or.inl ⟨_, rfl⟩)) ?_
  refine ew_iconst (M := mX5_init) dX5_init_16 (v := nI 0) (by decide) ?_
  refine ew_put (M := mX5_init) dX5_init_17 fX5_18 (by repeat (first | with_reducible assumption | refine ex_eq ?_ | refine ex_ne ?_ (by omega) | exact ex_lt (by with_reducible assumption) | rw [List.length_set] | assumption)) (by exact Nat.le_of_ble_eq_true rfl) ⟨rfl, rfl, fun _ h => by cases h⟩ ?_
  refine ew_aload_n (M := mX5_init) dX5_init_20 rfl (Or.inr (Or.inl ⟨_, rfl⟩)) ?_
  refine ew_iconst (M := mX5_init) dX5_init_21 (v := nI 0) (by decide) ?_
  refine ew_put (M := mX5_init) dX5_init_22 fX5_21 (by repeat (first | with_reducible assumption | refine ex_eq ?_ | refine ex_ne ?_ (by omega) | exact ex_lt (by with_reducible assumption) | rw [List.length_set] | assumption)) (by exact Nat.le_of_ble_eq_true rfl) ⟨rfl, rfl, fun _ h => by cases h⟩ ?_
  refine ew_aload_n (M := mX5_init) dX5_init_25 rfl (Or.inr (Or.inl ⟨_, rfl⟩)) ?_
  refine ew_iconst (M := mX5_init) dX5_init_26 (v := (-1)) (by decide) ?_
  refine ew_put (M := mX5_init) dX5_init_27 fX5_24 (by repeat (first | with_reducible assumption | refine ex_eq ?_ | refine ex_ne ?_ (by omega) | exact ex_lt (by with_reducible assumption) | rw [List.length_set] | assumption)) (by exact Nat.le_of_ble_eq_true rfl) ⟨rfl, rfl, fun _ h => by cases h⟩ ?_
  refine ew_aload_n (M := mX5_init) dX5_init_30 rfl (Or.inr (Or.inl ⟨_, rfl⟩)) ?_
  refine ew_aload_n (M := mX5_init) dX5_init_31 rfl (Or.inr (Or.inl ⟨_, rfl⟩)) ?_
  refine ew_putF (M := mX5_init) dX5_init_32 fX5_27 rfl rfl (by repeat (first | with_reducible assumption | refine ex_eq ?_ | refine ex_ne ?_ (by omega) | exact ex_lt (by with_reducible assumption) | rw [List.length_set] | assumption)) (by exact Nat.le_of_ble_eq_true rfl) ⟨rfl, rfl, fun _ h => by cases h⟩ ?_
  refine ew_vret (M := mX5_init) dX5_init_35 rfl (Nat.le_refl _) (Nat.le_refl _) ?_
  refine ⟨rfl, (((((ex_ch.rf.set (by simp)).set (by simp)).set (by simp)).set (by simp)).set (by simp)).set (by simp), ?_⟩
  exact ex_eq (by rw [List.length_set, List.length_set, List.length_set, List.length_set, List.length_set]; exact ex_lt ha)
theorem rd_fs_lt (z : rd_S) (x : Nat) : rd_fs z x < 2 ^ 31 := by
  have h : rd_fs z x ≤ 3 := by
    unfold rd_fs rd_f brk
    repeat' split
    all_goals omega
  omega
/-- the reading of i letters: a fault and its place, or a state -/
def rd_st (t : Nat → Nat) : Nat → (Nat × Nat) ⊕ rd_S
  | 0 => .inr (0, 0, 0, 0, 0, fun _ => 0, fun _ => 0)
  | i + 1 => match rd_st t i with
    | .inl f => .inl f
    | .inr z => if rd_fs z (t i) = 0 then .inr (rd_n z (t i)) else .inl (rd_fs z (t i), i)
theorem rd_st_l {t : Nat → Nat} {i : Nat} {f : Nat × Nat} (h : rd_st t i = .inl f) : ∀ n, i ≤ n → rd_st t n = .inl f := by
  intro n hn
  obtain ⟨k, rfl⟩ := Nat.exists_eq_add_of_le hn
  induction k with
  | zero => exact h
  | succ k ih =>
    show (match rd_st t (i + k) with | .inl f => (.inl f : (Nat × Nat) ⊕ rd_S) | .inr z => if rd_fs z (t (i + k)) = 0 then .inr (rd_n z (t (i + k))) else .inl (rd_fs z (t (i + k)), i + k)) = _
    rw [ih (by omega)]
theorem rd_st_ok {t : Nat → Nat} : ∀ (i : Nat) (z : rd_S), rd_st t i = .inr z → rd_o z
  | 0, z, h => by
    cases h
    exact ⟨by decide, by decide, by decide, fun h => absurd h (by decide), by decide, fun h => absurd h (by decide), rfl⟩
  | i + 1, z, h => by
    have h2 : (match rd_st t i with | .inl f => (.inl f : (Nat × Nat) ⊕ rd_S) | .inr z => if rd_fs z (t i) = 0 then .inr (rd_n z (t i)) else .inl (rd_fs z (t i), i)) = .inr z := h
    cases e : rd_st t i with
    | inl f => rw [e] at h2; cases h2
    | inr z0 =>
      rw [e] at h2
      dsimp only at h2
      by_cases q : rd_fs z0 (t i) = 0
      · rw [if_pos q] at h2
        cases h2
        exact rd_n_ok (rd_st_ok i z0 e) q
      · rw [if_neg q] at h2; cases h2
def brks (z : rd_S) : Nat := brk z.2.1 z.2.2.1 z.2.2.2.1 z.2.2.2.2.1
/-- the fault of a text of n letters (0: none), and its place -/
def rd_fault (t : Nat → Nat) (n : Nat) : Nat × Nat := match rd_st t n with
  | .inl f => f
  | .inr z => (brks z, n)
theorem rd_fs_ne {t : Nat → Nat} {i : Nat} {z : rd_S} (h : rd_st t i = .inr z) (hf : rd_fs z (t i) ≠ 0) {n : Nat} (hn : i < n) : rd_fault t n = (rd_fs z (t i), i) := by
  have h1 : rd_st t (i + 1) = .inl (rd_fs z (t i), i) := by
    show (match rd_st t i with | .inl f => (.inl f : (Nat × Nat) ⊕ rd_S) | .inr z => if rd_fs z (t i) = 0 then .inr (rd_n z (t i)) else .inl (rd_fs z (t i), i)) = _
    rw [h]
    dsimp only
    rw [if_neg hf]
  unfold rd_fault
  rw [rd_st_l h1 n hn]
theorem rd_st_s {t : Nat → Nat} {i : Nat} {z : rd_S} (h : rd_st t i = .inr z) (hf : rd_fs z (t i) = 0) : rd_st t (i + 1) = .inr (rd_n z (t i)) := by
  show (match rd_st t i with | .inl f => (.inl f : (Nat × Nat) ⊕ rd_S) | .inr z => if rd_fs z (t i) = 0 then .inr (rd_n z (t i)) else .inl (rd_fs z (t i), i)) = _
  rw [h]
  dsimp only
  rw [if_pos hf]
theorem sp_readInto {d : Nat} {H : ex_H} {q p n : Nat} {t : Nat → Nat} {pl : Int32} (hq : tx_is H q n t pl) (hp : pi_any H p) (hqp : q + 1 < p ∨ p + 2 < q) : ex_Met mX7_readInto (d + 4) 1 6 H [.ref q, .ref p] (fun H' x => x = some (.int (nI (rd_fault t n).1)) ∧ ex_ch H H' [q, p, p + 1, p + 2] ∧ tx_is H' q n t (nI (rd_fault t n).2) ∧ pi_any H' p ∧ ((rd_fault t n).1 = 0 → ∃ z, rd_st t n = .inr z ∧ pi_is H' p (rd_W z.2.1 z.2.2.1 z.2.2.2.1) (z.2.1 + 1) z.2.2.2.2.2.1 z.2.2.2.2.2.2)) := by
  obtain ⟨h1, h2, h3, f, h4, h5⟩ := id hq
  obtain ⟨w0, h0, gs, ms, hp0⟩ := id hp
  obtain ⟨hp1, hp2, hp3⟩ := id hp0
  have lp1 := ex_lt hp1
  have lp2 := ex_lt hp2
  have lp3 := ex_lt hp3
  have lq1 := ex_lt h3
  have lq2 := ex_lt h4
  refine ex_meth [(0, .ref q), (1, .ref p)] rfl rfl rfl (fun b => Nat.le_of_ble_eq_true rfl) ?_
  refine ew_new (M := mX7_readInto) dX7_readInto_0 nX7_23 (Nat.le_refl _) (Nat.le_refl _) ?_
  refine ew_dup (M := mX7_readInto) dX7_readInto_3 rfl ?_
  refine ew_aload_n (M := mX7_readInto) dX7_readInto_4 rfl (Or.inr (Or.inl ⟨_, rfl⟩)) ?_
  refine ew_callI (M := mX7_readInto) dX7_readInto_5 vX7_25 (sp_Reader (List.getElem?_concat_length)) rfl (Nat.le_of_ble_eq_true rfl) ⟨Nat.le_refl _, Nat.le_refl _⟩ rfl (fun H5 r5 q5 => ?_)
  obtain ⟨rfl, hc5, ha5⟩ := q5
  refine ew_astore_n (M := mX7_readInto) dX7_readInto_8 (Or.inr ⟨_, rfl⟩) (by decide) rfl ?_
  refine ew_iconst (M := mX7_readInto) dX7_readInto_9 (v := nI 0) (by decide) ?_
  refine ew_istore_n (M := mX7_readInto) dX7_readInto_10 (by decide) rfl ?_
  have hc1' : ex_ch H H5 [] := (ex_ch.rf.app).tr hc5 (by simp)
  have hc1 : ex_ch H H5 [q, p, p + 1, p + 2] := hc1'.sub (by simp)
  refine ew_ls [(0, .ref q), (1, .ref p), (2, .ref H.length), (3, .int (nI 0))] ⟨rfl, rfl, rfl, rfl, trivial⟩ ?_
  have key : ∀ i, i ≤ n → (∀ (H2 : ex_H) (z : rd_S) (pl : Int32), rd_st t i = .inr z → ex_ch H H2 [q, p, p + 1, p + 2] → tx_is H2 q n t pl → re_s H2 H.length p z → rd_s H2 p z → ex_W mX7_readInto (d + 4) 1 6 (fun H' x => x = some (.int (nI (rd_fault t n).1)) ∧ ex_ch H H' [q, p, p + 1, p + 2] ∧ tx_is H' q n t (nI (rd_fault t n).2) ∧ pi_any H' p ∧ ((rd_fault t n).1 = 0 → ∃ z, rd_st t n = .inr z ∧ pi_is H' p (rd_W z.2.1 z.2.2.1 z.2.2.2.1) (z.2.1 + 1) z.2.2.2.2.2.1 z.2.2.2.2.2.2)) H2 11 [(0, .ref q), (1, .ref p), (2, .ref H.length), (3, .int (nI i))] [] (0 + 1 + 0) (0 + 6 + 0)) := by
    intro i hi
    obtain ⟨k, hk⟩ : ∃ k, i + k = n := ⟨n - i, by omega⟩
    clear hi
    induction k generalizing i with
    | zero =>
      obtain rfl : i = n := hk
      intro H2 z pl2 hz hc2 hq2 ha2 hp2
      have hok := rd_st_ok _ _ hz
      obtain ⟨-, -, h32, f2, h42, h52⟩ := id hq2
      have ha2o := ha2
      unfold re_s re_is at ha2o
      have ef : rd_fault t i = (brks z, i) := by unfold rd_fault; rw [hz]
      rw [ef]
      by_cases hb : brks z = 0
      · refine ew_iload_n (M := mX7_readInto) dX7_readInto_11 rfl ?_
        refine ew_aload_n (M := mX7_readInto) dX7_readInto_12 rfl (Or.inr (Or.inl ⟨_, rfl⟩)) ?_
        refine ew_get (M := mX7_readInto) dX7_readInto_13 fX7_9 (by repeat (first | with_reducible assumption | refine ex_eq ?_ | refine ex_ne ?_ (by omega) | exact ex_lt (by with_reducible assumption) | rw [List.length_set] | assumption)) (by rfl) ?_
        refine ew_icmp_ge (M := mX7_readInto) (tgt := 50) dX7_readInto_16 rfl (fun _ => ?_) (fun h => absurd (nI_le (Nat.le_refl _) (by omega)) h)
        refine ew_aload_n (M := mX7_readInto) dX7_readInto_50 rfl (Or.inr (Or.inl ⟨_, rfl⟩)) ?_
        refine ew_aload_n (M := mX7_readInto) dX7_readInto_51 rfl (Or.inr (Or.inl ⟨_, rfl⟩)) ?_
        refine ew_get (M := mX7_readInto) dX7_readInto_52 fX7_9 (by repeat (first | with_reducible assumption | refine ex_eq ?_ | refine ex_ne ?_ (by omega) | exact ex_lt (by with_reducible assumption) | rw [List.length_set] | assumption)) (by rfl) ?_
        refine ew_put (M := mX7_readInto) dX7_readInto_55 fX7_19 (by repeat (first | with_reducible assumption | refine ex_eq ?_ | refine ex_ne ?_ (by omega) | exact ex_lt (by with_reducible assumption) | rw [List.length_set] | assumption)) (by exact Nat.le_of_ble_eq_true rfl) ⟨rfl, rfl, fun _ h => by cases h⟩ ?_
        refine ew_aload_n (M := mX7_readInto) dX7_readInto_58 rfl (Or.inr (Or.inl ⟨_, rfl⟩)) ?_
        refine ew_iconst (M := mX7_readInto) dX7_readInto_59 (v := nI 1) (by decide) ?_
        refine ew_callV (M := mX7_readInto) dX7_readInto_60 vX7_32 (by repeat (first | with_reducible assumption | refine ex_eq ?_ | refine ex_ne ?_ (by omega) | exact ex_lt (by with_reducible assumption) | rw [List.length_set] | assumption)) rfl (sp_takeRowEnd_e (H := H2.set q (ob 7 [.int (nI i), .ref (q + 1), .int (nI i)])) (ex_ne ha2o (by omega)) hok (g := z.2.2.2.2.2.1) (m := z.2.2.2.2.2.2) (rd_pi.ch (L := [q]) (ex_ch.rf.set (by simp)) hp2 (by simp; omega) (by simp; omega) (by simp; omega)) (by omega) hb) rfl (Nat.le_of_ble_eq_true rfl) ⟨Nat.le_refl _, Nat.le_refl _⟩ rfl (fun H60 r60 q60 => ?_)
        obtain ⟨rfl, hc6, hp6⟩ := q60
        refine ew_iret (M := mX7_readInto) dX7_readInto_63 rfl (by first | rfl | decide) (Nat.le_refl _) (Nat.le_refl _) ?_
        refine ⟨by rw [hb], (hc2.set (by simp)).tr hc6 (by simp), ?_, ⟨_, _, _, _, hp6.2.choose_spec.choose_spec.1⟩, fun _ => ⟨z, hz, hp6⟩⟩
        refine tx_is.ch hc6 ⟨h1, h2, ex_eq (ex_lt h32), f2, ex_ne h42 (by omega), h52⟩ (by simp; omega) (by simp; omega)
      · refine ew_iload_n (M := mX7_readInto) dX7_readInto_11 rfl ?_
        refine ew_aload_n (M := mX7_readInto) dX7_readInto_12 rfl (Or.inr (Or.inl ⟨_, rfl⟩)) ?_
        refine ew_get (M := mX7_readInto) dX7_readInto_13 fX7_9 (by repeat (first | with_reducible assumption | refine ex_eq ?_ | refine ex_ne ?_ (by omega) | exact ex_lt (by with_reducible assumption) | rw [List.length_set] | assumption)) (by rfl) ?_
        refine ew_icmp_ge (M := mX7_readInto) (tgt := 50) dX7_readInto_16 rfl (fun _ => ?_) (fun h => absurd (nI_le (Nat.le_refl _) (by omega)) h)
        refine ew_aload_n (M := mX7_readInto) dX7_readInto_50 rfl (Or.inr (Or.inl ⟨_, rfl⟩)) ?_
        refine ew_aload_n (M := mX7_readInto) dX7_readInto_51 rfl (Or.inr (Or.inl ⟨_, rfl⟩)) ?_
        refine ew_get (M := mX7_readInto) dX7_readInto_52 fX7_9 (by repeat (first | with_reducible assumption | refine ex_eq ?_ | refine ex_ne ?_ (by omega) | exact ex_lt (by with_reducible assumption) | rw [List.length_set] | assumption)) (by rfl) ?_
        refine ew_put (M := mX7_readInto) dX7_readInto_55 fX7_19 (by repeat (first | with_reducible assumption | refine ex_eq ?_ | refine ex_ne ?_ (by omega) | exact ex_lt (by with_reducible assumption) | rw [List.length_set] | assumption)) (by exact Nat.le_of_ble_eq_true rfl) ⟨rfl, rfl, fun _ h => by cases h⟩ ?_
        refine ew_aload_n (M := mX7_readInto) dX7_readInto_58 rfl (Or.inr (Or.inl ⟨_, rfl⟩)) ?_
        refine ew_iconst (M := mX7_readInto) dX7_readInto_59 (v := nI 1) (by decide) ?_
        refine ew_callV (M := mX7_readInto) dX7_readInto_60 vX7_32 (by repeat (first | with_reducible assumption | refine ex_eq ?_ | refine ex_ne ?_ (by omega) | exact ex_lt (by with_reducible assumption) | rw [List.length_set] | assumption)) rfl (sp_takeRowEnd_f (H := H2.set q (ob 7 [.int (nI i), .ref (q + 1), .int (nI i)])) (ex_ne ha2o (by omega)) hok hb) rfl (Nat.le_of_ble_eq_true rfl) ⟨Nat.le_refl _, Nat.le_refl _⟩ rfl (fun H60 r60 q60 => ?_)
        obtain ⟨rfl, rfl⟩ := q60
        refine ew_iret (M := mX7_readInto) dX7_readInto_63 rfl (by first | rfl | decide) (Nat.le_refl _) (Nat.le_refl _) ?_
        exact ⟨rfl, hc2.set (by simp), ⟨h1, h2, ex_eq (ex_lt h32), f2, ex_ne h42 (by omega), h52⟩, hp2.any.ch (L := [q]) (ex_ch.rf.set (by simp)) (by simp; omega) (by simp; omega) (by simp; omega), fun e => absurd e hb⟩
    | succ k ih =>
      intro H2 z pl2 hz hc2 hq2 ha2 hp2
      have hok := rd_st_ok _ _ hz
      obtain ⟨-, -, h32, f2, h42, h52⟩ := id hq2
      have ha2o := ha2
      unfold re_s re_is at ha2o
      have hti := h2 i (by omega)
      have h52i := h52 i (by omega)
      refine ew_iload_n (M := mX7_readInto) dX7_readInto_11 rfl ?_
      refine ew_aload_n (M := mX7_readInto) dX7_readInto_12 rfl (Or.inr (Or.inl ⟨_, rfl⟩)) ?_
      refine ew_get (M := mX7_readInto) dX7_readInto_13 fX7_9 (by repeat (first | with_reducible assumption | refine ex_eq ?_ | refine ex_ne ?_ (by omega) | exact ex_lt (by with_reducible assumption) | rw [List.length_set] | assumption)) (by rfl) ?_
      refine ew_icmp_ge (M := mX7_readInto) (tgt := 50) dX7_readInto_16 rfl (fun h => absurd h (nI_ge (by omega) (by omega))) (fun _ => ?_)
      refine ew_aload_n (M := mX7_readInto) dX7_readInto_19 rfl (Or.inr (Or.inl ⟨_, rfl⟩)) ?_
      refine ew_iload_n (M := mX7_readInto) dX7_readInto_20 rfl ?_
      refine ew_put (M := mX7_readInto) dX7_readInto_21 fX7_19 (by repeat (first | with_reducible assumption | refine ex_eq ?_ | refine ex_ne ?_ (by omega) | exact ex_lt (by with_reducible assumption) | rw [List.length_set] | assumption)) (by exact Nat.le_of_ble_eq_true rfl) ⟨rfl, rfl, fun _ h => by cases h⟩ ?_
      refine ew_aload_n (M := mX7_readInto) dX7_readInto_24 rfl (Or.inr (Or.inl ⟨_, rfl⟩)) ?_
      refine ew_aload_n (M := mX7_readInto) dX7_readInto_25 rfl (Or.inr (Or.inl ⟨_, rfl⟩)) ?_
      refine ew_get (M := mX7_readInto) dX7_readInto_26 fX7_15 (by repeat (first | with_reducible assumption | refine ex_eq ?_ | refine ex_ne ?_ (by omega) | exact ex_lt (by with_reducible assumption) | rw [List.length_set] | assumption)) (by rfl) ?_
      refine ew_iload_n (M := mX7_readInto) dX7_readInto_29 rfl ?_
      refine ew_iald (M := mX7_readInto) i dX7_readInto_30 (by repeat (first | with_reducible assumption | refine ex_eq ?_ | refine ex_ne ?_ (by omega) | exact ex_lt (by with_reducible assumption) | rw [List.length_set] | assumption)) ⟨rfl, by omega, by decide⟩ ?_
      rw [h52i]
      refine ew_callV (M := mX7_readInto) dX7_readInto_31 vX7_28 (by repeat (first | with_reducible assumption | refine ex_eq ?_ | refine ex_ne ?_ (by omega) | exact ex_lt (by with_reducible assumption) | rw [List.length_set] | assumption)) rfl (sp_take (H := H2.set q (ob 7 [.int (nI n), .ref (q + 1), .int (nI i)])) (a := H.length) (p := p) (z := z) (ex_ne ha2o (by omega)) hok (rd_pi.ch (L := [q]) (ex_ch.rf.set (by simp)) hp2 (by simp; omega) (by simp; omega) (by simp; omega)) (by omega) hti) rfl (Nat.le_of_ble_eq_true rfl) ⟨Nat.le_refl _, Nat.le_refl _⟩ rfl (fun H31 r31 q31 => ?_)
      obtain ⟨rfl, hc6, hy6, hg6⟩ := q31
      have hq6 : tx_is H31 q n t (nI i) := tx_is.ch hc6 ⟨h1, h2, ex_eq (ex_lt h32), f2, ex_ne h42 (by omega), h52⟩ (by simp; omega) (by simp; omega)
      have hc7 : ex_ch H H31 [q, p, p + 1, p + 2] := (hc2.set (by simp)).tr hc6 (by simp)
      refine ew_istore (M := mX7_readInto) dX7_readInto_34 (by decide) rfl ?_
      refine ew_iload (M := mX7_readInto) dX7_readInto_36 rfl ?_
      refine ew_if_eq (M := mX7_readInto) (tgt := 44) dX7_readInto_38 rfl (fun c38 => ?_) (fun c38 => ?_)
      · have hz0 : rd_fs z (t i) = 0 := by
          by_cases e : rd_fs z (t i) = 0
          · exact e
          · exact absurd c38 (nI_n0 (by omega) (rd_fs_lt z (t i)))
        obtain ⟨ha6, hp6⟩ := hg6 hz0
        refine ew_iinc (M := mX7_readInto) dX7_readInto_44 rfl (ex_inc i) (by decide) rfl ?_
        refine ew_goto (M := mX7_readInto) (tgt := 11) dX7_readInto_47 rfl ?_
        refine ew_ls _ ?_ (ih (i + 1) (by omega) _ _ _ (rd_st_s hz hz0) hc7 hq6 ha6 hp6)
        exact ⟨rfl, rfl, rfl, rfl, trivial⟩
      · have hz0 : rd_fs z (t i) ≠ 0 := fun e => c38 (by rw [e]; rfl)
        have ef := rd_fs_ne hz hz0 (n := n) (by omega)
        rw [ef]
        refine ew_iload (M := mX7_readInto) dX7_readInto_41 rfl ?_
        refine ew_iret (M := mX7_readInto) dX7_readInto_43 rfl (by first | rfl | decide) (Nat.le_refl _) (Nat.le_refl _) ?_
        exact ⟨rfl, hc7, hq6, hy6, fun e => absurd e hz0⟩
  refine ew_ls _ ?_ (key 0 (Nat.zero_le n) H5 _ pl rfl hc1 ?_ ha5 ?_)
  · exact ⟨rfl, rfl, rfl, rfl, trivial⟩
  · exact hq.ch hc1' (by simp) (by simp)
  · exact ⟨w0, h0, gs, ms, hp0.ch hc1' (by simp) (by simp) (by simp), fun k hk => absurd hk (Nat.not_lt_zero k)⟩
