theorem bs_one (c : Nat → Nat) {v : Nat} (hv : v < 256) : bs c 0 v + c v ≤ bs c 0 256 := by
  have h := bs_mono c 0 (show v + 1 ≤ 256 by omega)
  have e : bs c 0 (v + 1) = bs c 0 v + c (0 + v) := rfl
  rw [Nat.zero_add] at e
  omega
theorem bs_16 (c : Nat → Nat) {b : Nat} (hb : b < 16) : bs c 0 (16 * b) + bs c (16 * b) 16 = bs c 0 (16 * (b + 1)) ∧ bs c 0 (16 * (b + 1)) ≤ bs c 0 256 := by
  refine ⟨?_, bs_mono c 0 (by omega)⟩
  rw [show 16 * (b + 1) = 16 * b + 16 by omega, bs_add, Nat.zero_add]
theorem sp_ranked0 {d : Nat} {H : ex_H} {q : Nat} {x : Int32} {c : Nat → Nat} (hq : wi_is H q c) (h0 : bs c 0 256 = 0) : ex_Met mX8_ranked d 0 0 H [.ref q, .int x] (ex_r H (.int (-1))) := by
  obtain ⟨hq1, co, fi, hq2, hq3, hco, hfi⟩ := id hq
  rw [h0] at hq1
  refine ex_meth [(0, .ref q), (1, .int x)] rfl rfl rfl (fun b => Nat.le_of_ble_eq_true rfl) ?_
  refine ew_aload_n (M := mX8_ranked) dX8_ranked_0 rfl (Or.inr (Or.inl ⟨_, rfl⟩)) ?_
  refine ew_get (M := mX8_ranked) dX8_ranked_1 fX8_9 (by repeat (first | with_reducible assumption | refine ex_eq ?_ | refine ex_ne ?_ (by omega) | exact ex_lt (by with_reducible assumption) | rw [List.length_set] | assumption)) (by rfl) ?_
  refine ew_if_ne (M := mX8_ranked) (tgt := 9) dX8_ranked_4 rfl (fun h => absurd rfl h) (fun _ => ?_)
  refine ew_iconst (M := mX8_ranked) dX8_ranked_7 (v := (-1)) (by decide) ?_
  refine ew_iret (M := mX8_ranked) dX8_ranked_8 rfl (by first | rfl | decide) (Nat.le_refl _) (Nat.le_refl _) ?_
  exact ⟨rfl, rfl⟩
theorem sp_ranked {d : Nat} {H : ex_H} {q rk : Nat} {c : Nat → Nat} (hq : wi_is H q c) (hrk : rk ≤ 100) (hpos : 1 ≤ bs c 0 256) (hN : bs c 0 256 ≤ 1000) : ex_Met mX8_ranked d 0 0 H [.ref q, .int (nI rk)] (ex_r H (.int (nI (kv c (rk * (bs c 0 256 - 1) / 100))))) := by
  obtain ⟨hq1, co, fi, hq2, hq3, hco, hfi⟩ := id hq
  have hm : rk * (bs c 0 256 - 1) ≤ 100 * (bs c 0 256 - 1) := Nat.mul_le_mul_right _ hrk
  have hk : rk * (bs c 0 256 - 1) / 100 < bs c 0 256 := by omega
  refine ex_meth [(0, .ref q), (1, .int (nI rk))] rfl rfl rfl (fun b => Nat.le_of_ble_eq_true rfl) ?_
  refine ew_aload_n (M := mX8_ranked) dX8_ranked_0 rfl (Or.inr (Or.inl ⟨_, rfl⟩)) ?_
  refine ew_get (M := mX8_ranked) dX8_ranked_1 fX8_9 (by repeat (first | with_reducible assumption | refine ex_eq ?_ | refine ex_ne ?_ (by omega) | exact ex_lt (by with_reducible assumption) | rw [List.length_set] | assumption)) (by rfl) ?_
  refine ew_if_ne (M := mX8_ranked) (tgt := 9) dX8_ranked_4 rfl (fun _ => ?_) (fun h => absurd h (nI_n0 hpos (by omega)))
  refine ew_iload_n (M := mX8_ranked) dX8_ranked_9 rfl ?_
  refine ew_aload_n (M := mX8_ranked) dX8_ranked_10 rfl (Or.inr (Or.inl ⟨_, rfl⟩)) ?_
  refine ew_get (M := mX8_ranked) dX8_ranked_11 fX8_9 (by repeat (first | with_reducible assumption | refine ex_eq ?_ | refine ex_ne ?_ (by omega) | exact ex_lt (by with_reducible assumption) | rw [List.length_set] | assumption)) (by rfl) ?_
  refine ew_iconst (M := mX8_ranked) dX8_ranked_14 (v := nI 1) (by decide) ?_
  refine ew_isub (M := mX8_ranked) dX8_ranked_15 ?_
  rw [pk_sub hpos]
  refine ew_imul (M := mX8_ranked) dX8_ranked_16 ?_
  rw [pk_mul]
  refine ew_bipush (M := mX8_ranked) dX8_ranked_17 (v := nI 100) (by decide) ?_
  refine ew_idiv (M := mX8_ranked) dX8_ranked_19 (by decide) ?_
  rw [pk_div (by omega) (by decide) (by decide)]
  generalize rk * (bs c 0 256 - 1) / 100 = k at hk ⊢
  refine ew_istore_n (M := mX8_ranked) dX8_ranked_20 (by decide) rfl ?_
  refine ew_iconst (M := mX8_ranked) dX8_ranked_21 (v := nI 0) (by decide) ?_
  refine ew_istore_n (M := mX8_ranked) dX8_ranked_22 (by decide) rfl ?_
  have key2 : ∀ n v, v + n = 255 → bs c 0 v ≤ k → ex_W mX8_ranked d 0 0 (ex_r H (.int (nI (kv c k)))) H 60 [(0, .ref q), (2, .int (nI (k - bs c 0 v))), (4, .int (nI v))] [] 0 0 := by
    intro n
    induction n with
    | zero =>
      intro v hv hb
      obtain rfl : v = 255 := hv
      refine ew_iload (M := mX8_ranked) dX8_ranked_60 rfl ?_
      refine ew_sipush (M := mX8_ranked) dX8_ranked_62 (v := nI 255) (by decide) ?_
      refine ew_icmp_ge (M := mX8_ranked) (tgt := 95) dX8_ranked_65 rfl (fun _ => ?_) (fun h => absurd (nI_le (Nat.le_refl _) (by decide)) h)
      refine ew_iload (M := mX8_ranked) dX8_ranked_95 rfl ?_
      refine ew_iret (M := mX8_ranked) dX8_ranked_97 rfl (by first | rfl | decide) (Nat.le_refl _) (Nat.le_refl _) ?_
      exact ⟨rfl, by rw [kv_eq hb hk]⟩
    | succ n ih =>
      intro v hv hb
      have hv2 : v < 256 := by omega
      have h1 := bs_one c hv2
      have e1 : bs c 0 (v + 1) = bs c 0 v + c v := by show bs c 0 v + c (0 + v) = _; rw [Nat.zero_add]
      refine ew_iload (M := mX8_ranked) dX8_ranked_60 rfl ?_
      refine ew_sipush (M := mX8_ranked) dX8_ranked_62 (v := nI 255) (by decide) ?_
      refine ew_icmp_ge (M := mX8_ranked) (tgt := 95) dX8_ranked_65 rfl (fun h => absurd h (nI_ge (by omega) (by decide))) (fun _ => ?_)
      refine ew_iload_n (M := mX8_ranked) dX8_ranked_68 rfl ?_
      refine ew_aload_n (M := mX8_ranked) dX8_ranked_69 rfl (Or.inr (Or.inl ⟨_, rfl⟩)) ?_
      refine ew_get (M := mX8_ranked) dX8_ranked_70 fX8_19 (by repeat (first | with_reducible assumption | refine ex_eq ?_ | refine ex_ne ?_ (by omega) | exact ex_lt (by with_reducible assumption) | rw [List.length_set] | assumption)) (by rfl) ?_
      refine ew_iload (M := mX8_ranked) dX8_ranked_73 rfl ?_
      refine ew_iald (M := mX8_ranked) v dX8_ranked_75 (by repeat (first | with_reducible assumption | refine ex_eq ?_ | refine ex_ne ?_ (by omega) | exact ex_lt (by with_reducible assumption) | rw [List.length_set] | assumption)) ⟨rfl, hv2, by decide⟩ ?_
      refine ew_icmp_lt (M := mX8_ranked) (tgt := 95) dX8_ranked_76 rfl (fun c76 => ?_) (fun c76 => ?_)
      · rw [hfi v hv2, nI_ltI (by omega) (by omega)] at c76
        refine ew_iload (M := mX8_ranked) dX8_ranked_95 rfl ?_
        refine ew_iret (M := mX8_ranked) dX8_ranked_97 rfl (by first | rfl | decide) (Nat.le_refl _) (Nat.le_refl _) ?_
        exact ⟨rfl, by rw [kv_eq hb (by omega)]⟩
      · rw [hfi v hv2, nI_ltI (by omega) (by omega)] at c76
        refine ew_iload_n (M := mX8_ranked) dX8_ranked_79 rfl ?_
        refine ew_aload_n (M := mX8_ranked) dX8_ranked_80 rfl (Or.inr (Or.inl ⟨_, rfl⟩)) ?_
        refine ew_get (M := mX8_ranked) dX8_ranked_81 fX8_19 (by repeat (first | with_reducible assumption | refine ex_eq ?_ | refine ex_ne ?_ (by omega) | exact ex_lt (by with_reducible assumption) | rw [List.length_set] | assumption)) (by rfl) ?_
        refine ew_iload (M := mX8_ranked) dX8_ranked_84 rfl ?_
        refine ew_iald (M := mX8_ranked) v dX8_ranked_86 (by repeat (first | with_reducible assumption | refine ex_eq ?_ | refine ex_ne ?_ (by omega) | exact ex_lt (by with_reducible assumption) | rw [List.length_set] | assumption)) ⟨rfl, hv2, by decide⟩ ?_
        refine ew_isub (M := mX8_ranked) dX8_ranked_87 ?_
        rw [hfi v hv2, pk_sub (by omega), show k - bs c 0 v - c v = k - bs c 0 (v + 1) by omega]
        refine ew_istore_n (M := mX8_ranked) dX8_ranked_88 (by decide) rfl ?_
        refine ew_iinc (M := mX8_ranked) dX8_ranked_89 rfl (ex_inc v) (by decide) rfl ?_
        refine ew_goto (M := mX8_ranked) (tgt := 60) dX8_ranked_92 rfl ?_
        refine ew_ls _ ?_ (ih (v + 1) (by omega) (by omega))
        exact ⟨rfl, rfl, rfl, trivial⟩
  have key1 : ∀ n b, b + n = 15 → bs c 0 (16 * b) ≤ k → ex_W mX8_ranked d 0 0 (ex_r H (.int (nI (kv c k)))) H 23 [(0, .ref q), (2, .int (nI (k - bs c 0 (16 * b)))), (3, .int (nI b))] [] 0 0 := by
    intro n
    induction n with
    | zero =>
      intro b hb hk2
      obtain rfl : b = 15 := hb
      refine ew_iload_n (M := mX8_ranked) dX8_ranked_23 rfl ?_
      refine ew_bipush (M := mX8_ranked) dX8_ranked_24 (v := nI 15) (by decide) ?_
      refine ew_icmp_ge (M := mX8_ranked) (tgt := 54) dX8_ranked_26 rfl (fun _ => ?_) (fun h => absurd (nI_le (Nat.le_refl _) (by decide)) h)
      refine ew_iload_n (M := mX8_ranked) dX8_ranked_54 rfl ?_
      refine ew_bipush (M := mX8_ranked) dX8_ranked_55 (v := nI 16) (by decide) ?_
      refine ew_imul (M := mX8_ranked) dX8_ranked_57 ?_
      rw [pk_mul]
      refine ew_istore (M := mX8_ranked) dX8_ranked_58 (by decide) rfl ?_
      refine ew_ls _ ?_ (key2 15 240 (by omega) hk2)
      exact ⟨rfl, rfl, rfl, trivial⟩
    | succ n ih =>
      intro b hb hk2
      have hb2 : b < 16 := by omega
      obtain ⟨h1, h2⟩ := bs_16 c hb2
      refine ew_iload_n (M := mX8_ranked) dX8_ranked_23 rfl ?_
      refine ew_bipush (M := mX8_ranked) dX8_ranked_24 (v := nI 15) (by decide) ?_
      refine ew_icmp_ge (M := mX8_ranked) (tgt := 54) dX8_ranked_26 rfl (fun h => absurd h (nI_ge (by omega) (by decide))) (fun _ => ?_)
      refine ew_iload_n (M := mX8_ranked) dX8_ranked_29 rfl ?_
      refine ew_aload_n (M := mX8_ranked) dX8_ranked_30 rfl (Or.inr (Or.inl ⟨_, rfl⟩)) ?_
      refine ew_get (M := mX8_ranked) dX8_ranked_31 fX8_15 (by repeat (first | with_reducible assumption | refine ex_eq ?_ | refine ex_ne ?_ (by omega) | exact ex_lt (by with_reducible assumption) | rw [List.length_set] | assumption)) (by rfl) ?_
      refine ew_iload_n (M := mX8_ranked) dX8_ranked_34 rfl ?_
      refine ew_iald (M := mX8_ranked) b dX8_ranked_35 (by repeat (first | with_reducible assumption | refine ex_eq ?_ | refine ex_ne ?_ (by omega) | exact ex_lt (by with_reducible assumption) | rw [List.length_set] | assumption)) ⟨rfl, hb2, by decide⟩ ?_
      refine ew_icmp_lt (M := mX8_ranked) (tgt := 54) dX8_ranked_36 rfl (fun c36 => ?_) (fun c36 => ?_)
      · rw [hco b hb2, nI_ltI (by omega) (by omega)] at c36
        refine ew_iload_n (M := mX8_ranked) dX8_ranked_54 rfl ?_
        refine ew_bipush (M := mX8_ranked) dX8_ranked_55 (v := nI 16) (by decide) ?_
        refine ew_imul (M := mX8_ranked) dX8_ranked_57 ?_
        rw [pk_mul, show b * 16 = 16 * b by omega]
        refine ew_istore (M := mX8_ranked) dX8_ranked_58 (by decide) rfl ?_
        refine ew_ls _ ?_ (key2 (255 - 16 * b) (16 * b) (by omega) hk2)
        exact ⟨rfl, rfl, rfl, trivial⟩
      · rw [hco b hb2, nI_ltI (by omega) (by omega)] at c36
        refine ew_iload_n (M := mX8_ranked) dX8_ranked_39 rfl ?_
        refine ew_aload_n (M := mX8_ranked) dX8_ranked_40 rfl (Or.inr (Or.inl ⟨_, rfl⟩)) ?_
        refine ew_get (M := mX8_ranked) dX8_ranked_41 fX8_15 (by repeat (first | with_reducible assumption | refine ex_eq ?_ | refine ex_ne ?_ (by omega) | exact ex_lt (by with_reducible assumption) | rw [List.length_set] | assumption)) (by rfl) ?_
        refine ew_iload_n (M := mX8_ranked) dX8_ranked_44 rfl ?_
        refine ew_iald (M := mX8_ranked) b dX8_ranked_45 (by repeat (first | with_reducible assumption | refine ex_eq ?_ | refine ex_ne ?_ (by omega) | exact ex_lt (by with_reducible assumption) | rw [List.length_set] | assumption)) ⟨rfl, hb2, by decide⟩ ?_
        refine ew_isub (M := mX8_ranked) dX8_ranked_46 ?_
        rw [hco b hb2, pk_sub (by omega), show k - bs c 0 (16 * b) - bs c (16 * b) 16 = k - bs c 0 (16 * (b + 1)) by omega]
        refine ew_istore_n (M := mX8_ranked) dX8_ranked_47 (by decide) rfl ?_
        refine ew_iinc (M := mX8_ranked) dX8_ranked_48 rfl (ex_inc b) (by decide) rfl ?_
        refine ew_goto (M := mX8_ranked) (tgt := 23) dX8_ranked_51 rfl ?_
        refine ew_ls _ ?_ (ih (b + 1) (by omega) (by omega))
        exact ⟨rfl, rfl, rfl, trivial⟩
  refine ew_ls _ ?_ (key1 15 0 rfl (Nat.zero_le k))
  exact ⟨rfl, rfl, rfl, trivial⟩
theorem sp_countedBelow {d : Nat} {H : ex_H} {q v : Nat} {c : Nat → Nat} (hq : wi_is H q c) (hv : v < 256) : ex_Met mX8_countedBelow d 0 0 H [.ref q, .int (nI v)] (ex_r H (.int (nI (bs c 0 v)))) := by
  obtain ⟨hq1, co, fi, hq2, hq3, hco, hfi⟩ := id hq
  refine ex_meth [(0, .ref q), (1, .int (nI v))] rfl rfl rfl (fun b => Nat.le_of_ble_eq_true rfl) ?_
  refine ew_iconst (M := mX8_countedBelow) dX8_countedBelow_0 (v := nI 0) (by decide) ?_
  refine ew_istore_n (M := mX8_countedBelow) dX8_countedBelow_1 (by decide) rfl ?_
  refine ew_iconst (M := mX8_countedBelow) dX8_countedBelow_2 (v := nI 0) (by decide) ?_
  refine ew_istore_n (M := mX8_countedBelow) dX8_countedBelow_3 (by decide) rfl ?_
  refine ew_ls [(0, .ref q), (1, .int (nI v)), (2, .int (nI (bs c 0 0))), (3, .int (nI 0))] ⟨rfl, rfl, rfl, rfl, trivial⟩ ?_
  refine nat_down (P := fun i => ex_W mX8_countedBelow d 0 0 _ H 4 [(0, .ref q), (1, .int (nI v)), (2, .int (nI (bs c 0 i))), (3, .int (nI i))] [] 0 0) v (fun i hi k => ?_) ?_
  · refine ew_iload_n (M := mX8_countedBelow) dX8_countedBelow_4 rfl ?_
    refine ew_iload_n (M := mX8_countedBelow) dX8_countedBelow_5 rfl ?_
    refine ew_icmp_ge (M := mX8_countedBelow) (tgt := 31) dX8_countedBelow_6 rfl (fun h => absurd h (nI_ge hi (by omega))) (fun _ => ?_)
    refine ew_iload_n (M := mX8_countedBelow) dX8_countedBelow_9 rfl ?_
    refine ew_sipush (M := mX8_countedBelow) dX8_countedBelow_10 (v := nI 256) (by decide) ?_
    refine ew_icmp_ge (M := mX8_countedBelow) (tgt := 31) dX8_countedBelow_13 rfl (fun h => absurd h (nI_ge (by omega) (by decide))) (fun _ => ?_)
    refine ew_iload_n (M := mX8_countedBelow) dX8_countedBelow_16 rfl ?_
    refine ew_aload_n (M := mX8_countedBelow) dX8_countedBelow_17 rfl (Or.inr (Or.inl ⟨_, rfl⟩)) ?_
    refine ew_get (M := mX8_countedBelow) dX8_countedBelow_18 fX8_19 (by repeat (first | with_reducible assumption | refine ex_eq ?_ | refine ex_ne ?_ (by omega) | exact ex_lt (by with_reducible assumption) | rw [List.length_set] | assumption)) (by rfl) ?_
    refine ew_iload_n (M := mX8_countedBelow) dX8_countedBelow_21 rfl ?_
    refine ew_iald (M := mX8_countedBelow) i dX8_countedBelow_22 (by repeat (first | with_reducible assumption | refine ex_eq ?_ | refine ex_ne ?_ (by omega) | exact ex_lt (by with_reducible assumption) | rw [List.length_set] | assumption)) ⟨rfl, by omega, by decide⟩ ?_
    refine ew_iadd (M := mX8_countedBelow) dX8_countedBelow_23 ?_
    rw [hfi i (by omega), nI_add]
    refine ew_istore_n (M := mX8_countedBelow) dX8_countedBelow_24 (by decide) rfl ?_
    refine ew_iinc (M := mX8_countedBelow) dX8_countedBelow_25 rfl (ex_inc i) (by decide) rfl ?_
    refine ew_goto (M := mX8_countedBelow) (tgt := 4) dX8_countedBelow_28 rfl ?_
    refine ew_ls _ ?_ k
    exact ⟨rfl, rfl, by show some (Value.int (nI (bs c 0 i + c i))) = some (.int (nI (bs c 0 i + c (0 + i)))); rw [Nat.zero_add], rfl, trivial⟩
  · refine ew_iload_n (M := mX8_countedBelow) dX8_countedBelow_4 rfl ?_
    refine ew_iload_n (M := mX8_countedBelow) dX8_countedBelow_5 rfl ?_
    refine ew_icmp_ge (M := mX8_countedBelow) (tgt := 31) dX8_countedBelow_6 rfl (fun _ => ?_) (fun h => absurd (nI_le (Nat.le_refl _) (by omega)) h)
    refine ew_iload_n (M := mX8_countedBelow) dX8_countedBelow_31 rfl ?_
    refine ew_iret (M := mX8_countedBelow) dX8_countedBelow_32 rfl (by first | rfl | decide) (Nat.le_refl _) (Nat.le_refl _) ?_
    exact ⟨rfl, rfl⟩
theorem sp_spread0 {d : Nat} {H : ex_H} {q : Nat} {c : Nat → Nat} (hq : wi_is H q c) (h0 : bs c 0 256 = 0) : ex_Met mX8_spread d 0 0 H [.ref q] (ex_r H (.int (-1))) := by
  obtain ⟨hq1, co, fi, hq2, hq3, hco, hfi⟩ := id hq
  rw [h0] at hq1
  refine ex_meth [(0, .ref q)] rfl rfl rfl (fun b => Nat.le_of_ble_eq_true rfl) ?_
  refine ew_aload_n (M := mX8_spread) dX8_spread_0 rfl (Or.inr (Or.inl ⟨_, rfl⟩)) ?_
  refine ew_get (M := mX8_spread) dX8_spread_1 fX8_9 (by repeat (first | with_reducible assumption | refine ex_eq ?_ | refine ex_ne ?_ (by omega) | exact ex_lt (by with_reducible assumption) | rw [List.length_set] | assumption)) (by rfl) ?_
  refine ew_if_ne (M := mX8_spread) (tgt := 11) dX8_spread_4 rfl (fun h => absurd rfl h) (fun _ => ?_)
  refine ew_iconst (M := mX8_spread) dX8_spread_7 (v := (-1)) (by decide) ?_
  refine ew_goto (M := mX8_spread) (tgt := 23) dX8_spread_8 rfl ?_
  refine ew_iret (M := mX8_spread) dX8_spread_23 rfl (by first | rfl | decide) (Nat.le_refl _) (Nat.le_refl _) ?_
  exact ⟨rfl, rfl⟩
theorem sp_spread {d : Nat} {H : ex_H} {q : Nat} {c : Nat → Nat} (hq : wi_is H q c) (hpos : 1 ≤ bs c 0 256) (hN : bs c 0 256 ≤ 1000) : ex_Met mX8_spread (d + 1) 0 0 H [.ref q] (ex_r H (.int (nI (kv c (bs c 0 256 - 1)) - nI (kv c 0)))) := by
  obtain ⟨hq1, co, fi, hq2, hq3, hco, hfi⟩ := id hq
  refine ex_meth [(0, .ref q)] rfl rfl rfl (fun b => Nat.le_of_ble_eq_true rfl) ?_
  refine ew_aload_n (M := mX8_spread) dX8_spread_0 rfl (Or.inr (Or.inl ⟨_, rfl⟩)) ?_
  refine ew_get (M := mX8_spread) dX8_spread_1 fX8_9 (by repeat (first | with_reducible assumption | refine ex_eq ?_ | refine ex_ne ?_ (by omega) | exact ex_lt (by with_reducible assumption) | rw [List.length_set] | assumption)) (by rfl) ?_
  refine ew_if_ne (M := mX8_spread) (tgt := 11) dX8_spread_4 rfl (fun _ => ?_) (fun h => absurd h (nI_n0 hpos (by omega)))
  refine ew_aload_n (M := mX8_spread) dX8_spread_11 rfl (Or.inr (Or.inl ⟨_, rfl⟩)) ?_
  refine ew_bipush (M := mX8_spread) dX8_spread_12 (v := nI 100) (by decide) ?_
  refine ew_callV (M := mX8_spread) dX8_spread_14 vX8_64 (by repeat (first | with_reducible assumption | refine ex_eq ?_ | refine ex_ne ?_ (by omega) | exact ex_lt (by with_reducible assumption) | rw [List.length_set] | assumption)) rfl (sp_ranked hq (Nat.le_refl 100) hpos hN) rfl (Nat.le_of_ble_eq_true rfl) ⟨Nat.le_refl _, Nat.le_refl _⟩ rfl (fun H14 r14 q14 => ?_)
  obtain ⟨rfl, rfl⟩ := q14
  refine ew_aload_n (M := mX8_spread) dX8_spread_17 rfl (Or.inr (Or.inl ⟨_, rfl⟩)) ?_
  refine ew_iconst (M := mX8_spread) dX8_spread_18 (v := nI 0) (by decide) ?_
  refine ew_callV (M := mX8_spread) dX8_spread_19 vX8_64 (by repeat (first | with_reducible assumption | refine ex_eq ?_ | refine ex_ne ?_ (by omega) | exact ex_lt (by with_reducible assumption) | rw [List.length_set] | assumption)) rfl (sp_ranked hq (Nat.zero_le 100) hpos hN) rfl (Nat.le_of_ble_eq_true rfl) ⟨Nat.le_refl _, Nat.le_refl _⟩ rfl (fun H19 r19 q19 => ?_)
  obtain ⟨rfl, rfl⟩ := q19
  refine ew_isub (M := mX8_spread) dX8_spread_22 ?_
  refine ew_iret (M := mX8_spread) dX8_spread_23 rfl (by first | rfl | decide) (Nat.le_refl _) (Nat.le_refl _) ?_
  exact ⟨rfl, by rw [Nat.mul_div_cancel_left _ (by decide), Nat.zero_mul, Nat.zero_div]⟩
